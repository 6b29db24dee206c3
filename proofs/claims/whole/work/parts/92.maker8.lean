/-! ===== Maker: its small methods ===== -/
theorem z_sfld {M : zM} {k pc : Nat} {L : zLo} {st : List Value} {D : zD} {Q : zQ} {c : Nat} (hc : c < 8) (hd : decode (zcc M) pc = .ok (.aaload, 1)) (kk : Z M k (pc + 1) L (.ref (21 + 2 * c) :: st) D Q) : Z M k pc L (.int (nI c) :: .ref 20 :: st) D Q := by
  refine z_oald (j := c) (rs := [21, 23, 25, 27, 29, 31, 33, 35]) rfl hd (vp_in_nI hc (by omega)) (nI_clamp (by omega)) ?_ kk
  have : ∀ c, c < 8 → ([21, 23, 25, 27, 29, 31, 33, 35] : List Nat)[c]? = some (21 + 2 * c) := by decide
  exact this c hc
def sfI (w : Nat) : Nat := if w = 8 then 2 else if w = 9 then 3 else w
def okAsg (asg ch : Nat) : Prop := (asg < 8 ∧ asg + 1 = ch) ∨ (8 ≤ asg ∧ asg ≤ 10 ∧ ch = 2)
theorem rowOf_cases {asg ch c : Nat} (h : okAsg asg ch) (hc : c < ch) : (asg < 8 ∧ rowOfN asg c = c ∧ sfI (rowOfN asg c) = c ∧ c < 8) ∨ (ch = 2 ∧ ((asg = 8 ∧ c = 0 ∧ rowOfN asg c = 0 ∧ sfI (rowOfN asg c) = 0) ∨ (asg = 8 ∧ c = 1 ∧ rowOfN asg c = 8 ∧ sfI (rowOfN asg c) = 2) ∨ (asg = 9 ∧ c = 0 ∧ rowOfN asg c = 8 ∧ sfI (rowOfN asg c) = 2) ∨ (asg = 9 ∧ c = 1 ∧ rowOfN asg c = 1 ∧ sfI (rowOfN asg c) = 1) ∨ (asg = 10 ∧ c = 0 ∧ rowOfN asg c = 9 ∧ sfI (rowOfN asg c) = 3) ∨ (asg = 10 ∧ c = 1 ∧ rowOfN asg c = 8 ∧ sfI (rowOfN asg c) = 2))) := by
  rcases h with ⟨h1, h2⟩ | ⟨h1, h2, h3⟩
  · have e : rowOfN asg c = c := if_pos h1
    refine .inl ⟨h1, e, ?_, by omega⟩
    rw [e]
    unfold sfI
    rw [if_neg (by omega), if_neg (by omega)]
  · right
    subst h3
    refine ⟨rfl, ?_⟩
    obtain e | e : c = 0 ∨ c = 1 := by omega
    · subst e
      obtain e | e | e : asg = 8 ∨ asg = 9 ∨ asg = 10 := by omega
      · subst e
        exact .inl ⟨rfl, rfl, rfl, rfl⟩
      · subst e
        exact .inr (.inr (.inl ⟨rfl, rfl, rfl, rfl⟩))
      · subst e
        exact .inr (.inr (.inr (.inr (.inl ⟨rfl, rfl, rfl, rfl⟩))))
    · subst e
      obtain e | e | e : asg = 8 ∨ asg = 9 ∨ asg = 10 := by omega
      · subst e
        exact .inr (.inl ⟨rfl, rfl, rfl, rfl⟩)
      · subst e
        exact .inr (.inr (.inr (.inl ⟨rfl, rfl, rfl, rfl⟩)))
      · subst e
        exact .inr (.inr (.inr (.inr (.inr ⟨rfl, rfl, rfl, rfl⟩))))
theorem sfI_lt {asg ch c : Nat} (h : okAsg asg ch) (hc : c < ch) : sfI (rowOfN asg c) < 8 := by
  rcases rowOf_cases h hc with ⟨_, _, e, h⟩ | ⟨_, h | h | h | h | h | h⟩ <;> omega
theorem okAsg.lt {asg ch : Nat} (h : okAsg asg ch) : asg < 16 := by
  rcases h with h | h <;> omega
theorem c_subframeOf {d asg ch c : Nat} {D : zD} {Q : zQ} (h : okAsg asg ch) (hc : c < ch) (hq : Q (.inl (some (.int (nI (sfI (rowOfN asg c)))))) 0 D) : ZM yX1_subframeOf iX1_subframeOf (d + 1) [.int (nI asg), .int (nI c)] D Q := by
  refine z_method (by decide) rfl (Nat.le_of_ble_eq_true rfl) ?_
  refine z_at [(0, .int (nI asg)), (1, .int (nI c))] ⟨rfl, rfl, trivial⟩ ?_
  have ha := h.lt
  have hc8 : c < 8 := by
    rcases rowOf_cases h hc with ⟨_, _, e, h⟩ | ⟨_, h | h | h | h | h | h⟩ <;> omega
  rcases rowOf_cases h hc with ⟨g1, g2, g3, g4⟩ | ⟨g0, g⟩
  · have hsd : side asg c = false := side_f (by omega)
    rw [g3] at hq
    refine z_iload_n dX1_subframeOf_0 (by exact rfl) ?_
    refine z_iload_n dX1_subframeOf_1 (by exact rfl) ?_
    refine z_cN dX1_subframeOf_2 zk_X1_128 rfl (by exact rfl) (Nat.le_of_ble_eq_true rfl) (Nat.le_of_ble_eq_true rfl) (Nat.le_refl _) ?_
    refine c_isSide ha hc8 ?_
    refine z_if_eq (tgt := 10) dX1_subframeOf_5 (by decide) (fun _ => ?_) (fun q9 => absurd ((by rw [hsd]; rfl)) q9)
    refine z_iload_n dX1_subframeOf_10 (by exact rfl) ?_
    refine z_bipush dX1_subframeOf_11 ?_
    refine z_icmp_ne (tgt := 20) dX1_subframeOf_13 (by decide) (fun _ => ?_) (fun q9 => absurd q9 ((fun q => absurd ((nI_eq (a := asg) (b := 10) (by omega) (by omega)).mp q) (by omega))))
    refine z_iload_n dX1_subframeOf_20 (by exact rfl) ?_
    exact z_iret (st := []) rfl dX1_subframeOf_21 hq
  · rcases g with ⟨a1, a2, a3, a4⟩ | ⟨a1, a2, a3, a4⟩ | ⟨a1, a2, a3, a4⟩ | ⟨a1, a2, a3, a4⟩ | ⟨a1, a2, a3, a4⟩ | ⟨a1, a2, a3, a4⟩ <;> rw [a4] at hq <;> subst a1 <;> subst a2
    · refine z_iload_n dX1_subframeOf_0 (by exact rfl) ?_
      refine z_iload_n dX1_subframeOf_1 (by exact rfl) ?_
      refine z_cN dX1_subframeOf_2 zk_X1_128 rfl (by exact rfl) (Nat.le_of_ble_eq_true rfl) (Nat.le_of_ble_eq_true rfl) (Nat.le_refl _) ?_
      refine c_isSide (by omega) (by omega) ?_
      refine z_if_eq (tgt := 10) dX1_subframeOf_5 (by decide) (fun _ => ?_) (fun q9 => absurd (rfl) q9)
      refine z_iload_n dX1_subframeOf_10 (by exact rfl) ?_
      refine z_bipush dX1_subframeOf_11 ?_
      refine z_icmp_ne (tgt := 20) dX1_subframeOf_13 (by decide) (fun _ => ?_) (fun q9 => absurd q9 ((by decide)))
      refine z_iload_n dX1_subframeOf_20 (by exact rfl) ?_
      exact z_iret (st := []) rfl dX1_subframeOf_21 hq
    · refine z_iload_n dX1_subframeOf_0 (by exact rfl) ?_
      refine z_iload_n dX1_subframeOf_1 (by exact rfl) ?_
      refine z_cN dX1_subframeOf_2 zk_X1_128 rfl (by exact rfl) (Nat.le_of_ble_eq_true rfl) (Nat.le_of_ble_eq_true rfl) (Nat.le_refl _) ?_
      refine c_isSide (by omega) (by omega) ?_
      refine z_if_eq (tgt := 10) dX1_subframeOf_5 (by decide) (fun q9 => absurd q9 ((by decide))) (fun _ => ?_)
      refine z_iconst dX1_subframeOf_8 ?_
      exact z_iret (st := []) rfl dX1_subframeOf_9 hq
    · refine z_iload_n dX1_subframeOf_0 (by exact rfl) ?_
      refine z_iload_n dX1_subframeOf_1 (by exact rfl) ?_
      refine z_cN dX1_subframeOf_2 zk_X1_128 rfl (by exact rfl) (Nat.le_of_ble_eq_true rfl) (Nat.le_of_ble_eq_true rfl) (Nat.le_refl _) ?_
      refine c_isSide (by omega) (by omega) ?_
      refine z_if_eq (tgt := 10) dX1_subframeOf_5 (by decide) (fun q9 => absurd q9 ((by decide))) (fun _ => ?_)
      refine z_iconst dX1_subframeOf_8 ?_
      exact z_iret (st := []) rfl dX1_subframeOf_9 hq
    · refine z_iload_n dX1_subframeOf_0 (by exact rfl) ?_
      refine z_iload_n dX1_subframeOf_1 (by exact rfl) ?_
      refine z_cN dX1_subframeOf_2 zk_X1_128 rfl (by exact rfl) (Nat.le_of_ble_eq_true rfl) (Nat.le_of_ble_eq_true rfl) (Nat.le_refl _) ?_
      refine c_isSide (by omega) (by omega) ?_
      refine z_if_eq (tgt := 10) dX1_subframeOf_5 (by decide) (fun _ => ?_) (fun q9 => absurd (rfl) q9)
      refine z_iload_n dX1_subframeOf_10 (by exact rfl) ?_
      refine z_bipush dX1_subframeOf_11 ?_
      refine z_icmp_ne (tgt := 20) dX1_subframeOf_13 (by decide) (fun _ => ?_) (fun q9 => absurd q9 ((by decide)))
      refine z_iload_n dX1_subframeOf_20 (by exact rfl) ?_
      exact z_iret (st := []) rfl dX1_subframeOf_21 hq
    · refine z_iload_n dX1_subframeOf_0 (by exact rfl) ?_
      refine z_iload_n dX1_subframeOf_1 (by exact rfl) ?_
      refine z_cN dX1_subframeOf_2 zk_X1_128 rfl (by exact rfl) (Nat.le_of_ble_eq_true rfl) (Nat.le_of_ble_eq_true rfl) (Nat.le_refl _) ?_
      refine c_isSide (by omega) (by omega) ?_
      refine z_if_eq (tgt := 10) dX1_subframeOf_5 (by decide) (fun _ => ?_) (fun q9 => absurd (rfl) q9)
      refine z_iload_n dX1_subframeOf_10 (by exact rfl) ?_
      refine z_bipush dX1_subframeOf_11 ?_
      refine z_icmp_ne (tgt := 20) dX1_subframeOf_13 (by decide) (fun q9 => absurd (rfl) q9) (fun _ => ?_)
      refine z_iconst dX1_subframeOf_16 ?_
      refine z_goto (tgt := 21) dX1_subframeOf_17 (by decide) ?_
      exact z_iret (st := []) rfl dX1_subframeOf_21 hq
    · refine z_iload_n dX1_subframeOf_0 (by exact rfl) ?_
      refine z_iload_n dX1_subframeOf_1 (by exact rfl) ?_
      refine z_cN dX1_subframeOf_2 zk_X1_128 rfl (by exact rfl) (Nat.le_of_ble_eq_true rfl) (Nat.le_of_ble_eq_true rfl) (Nat.le_refl _) ?_
      refine c_isSide (by omega) (by omega) ?_
      refine z_if_eq (tgt := 10) dX1_subframeOf_5 (by decide) (fun q9 => absurd q9 ((by decide))) (fun _ => ?_)
      refine z_iconst dX1_subframeOf_8 ?_
      exact z_iret (st := []) rfl dX1_subframeOf_9 hq
/-- row w of a frame stands chosen in its subframe -/
def rdyS (D : zD) (S : zRow) (ch bits : Nat) (pr : zPr) (o first n w : Nat) : Prop := wst n (rwW S ch first w) < bW bits w ∧ sf7 D (21 + 2 * sfI w) n (bW bits w - wst n (rwW S ch first w)) (wst n (rwW S ch first w)) ∧ row8 D (21 + 2 * sfI w + 1) (shR (wst n (rwW S ch first w)) (rwW S ch first w)) n ∧ sfW D (21 + 2 * sfI w) (8 + wst n (rwW S ch first w)) (some (wayA n (bW bits w) (rwW S ch first w) pr o))
theorem rdyS.sz {D : zD} {S : zRow} {ch bits : Nat} {pr : zPr} {o first n w : Nat} (h : rdyS D S ch bits pr o first n w) : D.2 (21 + 2 * sfI w) 6 = lN (fsz S ch bits pr o first n w) ∧ fsz S ch bits pr o first n w < 2 ^ 62 := ⟨h.2.2.2.2.2.1, h.2.2.2.2.2.2⟩
theorem rdyS.fr {D D' : zD} {F : Nat → Nat → Bool} {S : zRow} {ch bits : Nat} {pr : zPr} {o first n w : Nat} (h : rdyS D S ch bits pr o first n w) (hF : zfr F D D') (h1 : ∀ k, F (21 + 2 * sfI w) k = false) (h2 : ∀ k, F (21 + 2 * sfI w + 1) k = false) : rdyS D' S ch bits pr o first n w := ⟨h.1, h.2.1.fr hF (fun k _ => h1 k), h.2.2.1.fr hF h2, h.2.2.2.fr hF h1⟩
theorem c_sizeOf {d asg bits o first n : Nat} {pr : zPr} {D : zD} {Q : zQ} {S : zRow} (h : okAsg asg 2) (hr : ∀ c, c < 2 → rdyS D S 2 bits pr o first n (rowOfN asg c)) (hq : Q (.inl (some (.long (lN (fsz S 2 bits pr o first n (rowOfN asg 0) + fsz S 2 bits pr o first n (rowOfN asg 1)))))) 0 D) : ZM yX1_sizeOf iX1_sizeOf (d + 2) [.ref 5, .int (nI asg)] D Q := by
  refine z_method (by decide) rfl (Nat.le_of_ble_eq_true rfl) ?_
  refine z_at [(0, .ref 5), (1, .int (nI asg))] ⟨rfl, rfl, trivial⟩ ?_
  have l0 := sfI_lt h (c := 0) (by omega)
  have l1 := sfI_lt h (c := 1) (by omega)
  obtain ⟨⟨x0, x1, x2, x3, x4, x5, x6⟩, _⟩ := isSf_at _ l0
  obtain ⟨⟨y0, y1, y2, y3, y4, y5, y6⟩, _⟩ := isSf_at _ l1
  refine z_aload_n dX1_sizeOf_0 (by exact rfl) ?_
  refine z_gfA zfx_X1_41 (by exact rfl) dX1_sizeOf_1 ?_
  refine z_iload_n dX1_sizeOf_4 (by exact rfl) ?_
  refine z_iconst dX1_sizeOf_5 ?_
  refine z_cS dX1_sizeOf_6 zk_X1_105 (by exact rfl) (Nat.le_of_ble_eq_true rfl) (Nat.le_of_ble_eq_true rfl) (Nat.le_refl _) ?_
  refine c_subframeOf (c := 0) h (by omega) ?_
  refine z_sfld l0 dX1_sizeOf_9 ?_
  refine z_gfL zfx_X1_125 x6 dX1_sizeOf_10 ?_
  refine z_eJ (lN (fsz S 2 bits pr o first n (rowOfN asg 0))) (hr 0 (by omega)).sz.1 ?_
  refine z_aload_n dX1_sizeOf_13 (by exact rfl) ?_
  refine z_gfA zfx_X1_41 (by exact rfl) dX1_sizeOf_14 ?_
  refine z_iload_n dX1_sizeOf_17 (by exact rfl) ?_
  refine z_iconst dX1_sizeOf_18 ?_
  refine z_cS dX1_sizeOf_19 zk_X1_105 (by exact rfl) (Nat.le_of_ble_eq_true rfl) (Nat.le_of_ble_eq_true rfl) (Nat.le_refl _) ?_
  refine c_subframeOf (c := 1) h (by omega) ?_
  refine z_sfld l1 dX1_sizeOf_22 ?_
  refine z_gfL zfx_X1_125 y6 dX1_sizeOf_23 ?_
  refine z_eJ (lN (fsz S 2 bits pr o first n (rowOfN asg 1))) (hr 1 (by omega)).sz.1 ?_
  refine z_ladd dX1_sizeOf_26 ?_
  refine z_eJ _ (lN_add _ _) ?_
  exact z_lret (st := []) rfl dX1_sizeOf_27 hq
theorem c_shortest {d bits o first n : Nat} {pr : zPr} {D : zD} {Q : zQ} {S : zRow} (h0 : rdyS D S 2 bits pr o first n 0) (h1 : rdyS D S 2 bits pr o first n 1) (h8 : rdyS D S 2 bits pr o first n 8) (h9 : rdyS D S 2 bits pr o first n 9) (hq : Q (.inl (some (.int (nI (asgW S 2 bits pr o first n))))) 0 D) : ZM yX1_shortestAssignment iX1_shortestAssignment (d + 3) [.ref 5] D Q := by
  refine z_method (by decide) rfl (Nat.le_of_ble_eq_true rfl) ?_
  refine z_at [(0, .ref 5)] ⟨rfl, trivial⟩ ?_
  have e : asgW S 2 bits pr o first n = asgA (fsz S 2 bits pr o first n 0) (fsz S 2 bits pr o first n 1) (fsz S 2 bits pr o first n 8) (fsz S 2 bits pr o first n 9) := if_pos rfl
  rw [e] at hq
  have b0 := h0.sz.2
  have b1 := h1.sz.2
  have b8 := h8.sz.2
  have b9 := h9.sz.2
  have o1 : okAsg 1 2 := .inl ⟨by omega, rfl⟩
  have o8 : okAsg 8 2 := .inr ⟨by omega, by omega, rfl⟩
  have o9 : okAsg 9 2 := .inr ⟨by omega, by omega, rfl⟩
  have o10 : okAsg 10 2 := .inr ⟨by omega, by omega, rfl⟩
  have two : ∀ {P : Nat → Prop}, P 0 → P 1 → ∀ c, c < 2 → P c := fun p0 p1 c hc => by
    obtain e | e : c = 0 ∨ c = 1 := by omega
    · subst e
      exact p0
    · subst e
      exact p1
  have r1 : ∀ c, c < 2 → rdyS D S 2 bits pr o first n (rowOfN 1 c) := two h0 h1
  have r8 : ∀ c, c < 2 → rdyS D S 2 bits pr o first n (rowOfN 8 c) := two h0 h8
  have r9 : ∀ c, c < 2 → rdyS D S 2 bits pr o first n (rowOfN 9 c) := two h8 h1
  have r10 : ∀ c, c < 2 → rdyS D S 2 bits pr o first n (rowOfN 10 c) := two h9 h8
  unfold asgA at hq
  obtain ⟨l, el⟩ : ∃ l, l = fsz S 2 bits pr o first n 0 := ⟨_, rfl⟩
  obtain ⟨r, er⟩ : ∃ r, r = fsz S 2 bits pr o first n 1 := ⟨_, rfl⟩
  obtain ⟨sd, es⟩ : ∃ sd, sd = fsz S 2 bits pr o first n 8 := ⟨_, rfl⟩
  obtain ⟨md, em⟩ : ∃ md, md = fsz S 2 bits pr o first n 9 := ⟨_, rfl⟩
  rw [← el] at b0
  rw [← er] at b1
  rw [← es] at b8
  rw [← em] at b9
  rw [← el, ← er, ← es, ← em] at hq
  have sz : ∀ {asg : Nat} {Q : zQ} {d : Nat} (z : Nat), okAsg asg 2 → (∀ c, c < 2 → rdyS D S 2 bits pr o first n (rowOfN asg c)) → z = fsz S 2 bits pr o first n (rowOfN asg 0) + fsz S 2 bits pr o first n (rowOfN asg 1) → Q (.inl (some (.long (lN z)))) 0 D → ZM yX1_sizeOf iX1_sizeOf (d + 2) [.ref 5, .int (nI asg)] D Q := fun z ho hr hz hq => by
    subst hz
    exact c_sizeOf ho hr hq
  -- the third
  have t3 : ∀ (best z : Nat), okAsg best 2 → (∀ c, c < 2 → rdyS D S 2 bits pr o first n (rowOfN best c)) → z = fsz S 2 bits pr o first n (rowOfN best 0) + fsz S 2 bits pr o first n (rowOfN best 1) → z < 2 ^ 63 → (md + sd < z → Q (.inl (some (.int (nI 10)))) 0 D) → (¬ md + sd < z → Q (.inl (some (.int (nI best)))) 0 D) → Z (zmk iX1_shortestAssignment (d + 3)) 0 5 (zl [(0, .ref 5), (1, .int (nI best)), (2, .int (nI 10))]) [] D Q := by
    intro best z ho hr hz hzb q1 q0
    refine z_iload_n dX1_shortestAssignment_5 (by exact rfl) ?_
    refine z_bipush dX1_shortestAssignment_6 ?_
    refine z_icmp_gt (tgt := 33) dX1_shortestAssignment_8 (by decide) (fun q9 => absurd q9 ((by decide))) (fun _ => ?_)
    refine z_aload_n dX1_shortestAssignment_11 (by exact rfl) ?_
    refine z_iload_n dX1_shortestAssignment_12 (by exact rfl) ?_
    refine z_cV dX1_shortestAssignment_13 zk_X1_121 (by exact rfl) (by exact rfl) (by exact rfl) (Nat.le_of_ble_eq_true rfl) (Nat.le_of_ble_eq_true rfl) (Nat.le_refl _) ?_
    refine sz (md + sd) o10 r10 (by rw [em, es]; rfl) ?_
    refine z_aload_n dX1_shortestAssignment_16 (by exact rfl) ?_
    refine z_iload_n dX1_shortestAssignment_17 (by exact rfl) ?_
    refine z_cV dX1_shortestAssignment_18 zk_X1_121 (by exact rfl) (by exact rfl) (by exact rfl) (Nat.le_of_ble_eq_true rfl) (Nat.le_of_ble_eq_true rfl) (Nat.le_refl _) ?_
    refine sz z ho hr hz ?_
    refine z_ge (tgt := 27) dX1_shortestAssignment_21 dX1_shortestAssignment_22 (by decide) (fun c21 => ?_) (fun c21 => ?_)
    · refine z_iinc dX1_shortestAssignment_27 (by exact rfl) ?_
      refine z_goto (tgt := 5) dX1_shortestAssignment_30 (by decide) ?_
      refine z_iload_n dX1_shortestAssignment_5 (by exact rfl) ?_
      refine z_bipush dX1_shortestAssignment_6 ?_
      refine z_icmp_gt (tgt := 33) dX1_shortestAssignment_8 (by decide) (fun _ => ?_) (fun q9 => absurd ((by decide)) q9)
      refine z_iload_n dX1_shortestAssignment_33 (by exact rfl) ?_
      exact z_iret (st := []) rfl dX1_shortestAssignment_34 (q0 (fun q => by
        have := (pk_lLE (a := z) (b := md + sd) (by omega) (by omega)).mp c21
        omega))
    · refine z_iload_n dX1_shortestAssignment_25 (by exact rfl) ?_
      refine z_istore_n dX1_shortestAssignment_26 (Nat.le_of_ble_eq_true rfl) ?_
      refine z_iinc dX1_shortestAssignment_27 (by exact rfl) ?_
      refine z_goto (tgt := 5) dX1_shortestAssignment_30 (by decide) ?_
      refine z_iload_n dX1_shortestAssignment_5 (by exact rfl) ?_
      refine z_bipush dX1_shortestAssignment_6 ?_
      refine z_icmp_gt (tgt := 33) dX1_shortestAssignment_8 (by decide) (fun _ => ?_) (fun q9 => absurd ((by decide)) q9)
      refine z_iload_n dX1_shortestAssignment_33 (by exact rfl) ?_
      exact z_iret (st := []) rfl dX1_shortestAssignment_34 (q1 (by
        rcases Nat.lt_or_ge (md + sd) z with h | h
        · exact h
        · exact absurd ((pk_lLE (a := z) (b := md + sd) (by omega) (by omega)).mpr h) c21))
  have t2 : ∀ (best z : Nat), okAsg best 2 → (∀ c, c < 2 → rdyS D S 2 bits pr o first n (rowOfN best c)) → z = fsz S 2 bits pr o first n (rowOfN best 0) + fsz S 2 bits pr o first n (rowOfN best 1) → z < 2 ^ 63 → (sd + r < z → md + sd < sd + r → Q (.inl (some (.int (nI 10)))) 0 D) → (sd + r < z → ¬ md + sd < sd + r → Q (.inl (some (.int (nI 9)))) 0 D) → (¬ sd + r < z → md + sd < z → Q (.inl (some (.int (nI 10)))) 0 D) → (¬ sd + r < z → ¬ md + sd < z → Q (.inl (some (.int (nI best)))) 0 D) → Z (zmk iX1_shortestAssignment (d + 3)) 0 5 (zl [(0, .ref 5), (1, .int (nI best)), (2, .int (nI 9))]) [] D Q := by
    intro best z ho hr hz hzb q1 q2 q3 q4
    refine z_iload_n dX1_shortestAssignment_5 (by exact rfl) ?_
    refine z_bipush dX1_shortestAssignment_6 ?_
    refine z_icmp_gt (tgt := 33) dX1_shortestAssignment_8 (by decide) (fun q9 => absurd q9 ((by decide))) (fun _ => ?_)
    refine z_aload_n dX1_shortestAssignment_11 (by exact rfl) ?_
    refine z_iload_n dX1_shortestAssignment_12 (by exact rfl) ?_
    refine z_cV dX1_shortestAssignment_13 zk_X1_121 (by exact rfl) (by exact rfl) (by exact rfl) (Nat.le_of_ble_eq_true rfl) (Nat.le_of_ble_eq_true rfl) (Nat.le_refl _) ?_
    refine sz (sd + r) o9 r9 (by rw [es, er]; rfl) ?_
    refine z_aload_n dX1_shortestAssignment_16 (by exact rfl) ?_
    refine z_iload_n dX1_shortestAssignment_17 (by exact rfl) ?_
    refine z_cV dX1_shortestAssignment_18 zk_X1_121 (by exact rfl) (by exact rfl) (by exact rfl) (Nat.le_of_ble_eq_true rfl) (Nat.le_of_ble_eq_true rfl) (Nat.le_refl _) ?_
    refine sz z ho hr hz ?_
    refine z_ge (tgt := 27) dX1_shortestAssignment_21 dX1_shortestAssignment_22 (by decide) (fun c21 => ?_) (fun c21 => ?_)
    · refine z_iinc dX1_shortestAssignment_27 (by exact rfl) ?_
      refine z_goto (tgt := 5) dX1_shortestAssignment_30 (by decide) ?_
      exact z_at [(0, .ref 5), (1, .int (nI best)), (2, .int (nI 10))] ⟨rfl, rfl, rfl, trivial⟩ (by
        have hge : ¬ sd + r < z := fun q => by
          have := (pk_lLE (a := z) (b := sd + r) (by omega) (by omega)).mp c21
          omega
        exact t3 best z ho hr hz hzb (q3 hge) (q4 hge))
    · refine z_iload_n dX1_shortestAssignment_25 (by exact rfl) ?_
      refine z_istore_n dX1_shortestAssignment_26 (Nat.le_of_ble_eq_true rfl) ?_
      refine z_iinc dX1_shortestAssignment_27 (by exact rfl) ?_
      refine z_goto (tgt := 5) dX1_shortestAssignment_30 (by decide) ?_
      exact z_at [(0, .ref 5), (1, .int (nI 9)), (2, .int (nI 10))] ⟨rfl, rfl, rfl, trivial⟩ (by
        have hlt : sd + r < z := by
          rcases Nat.lt_or_ge (sd + r) z with h | h
          · exact h
          · exact absurd ((pk_lLE (a := z) (b := sd + r) (by omega) (by omega)).mpr h) c21
        exact t3 9 (sd + r) o9 r9 (by rw [es, er]; rfl) (by omega) (q1 hlt) (q2 hlt))
  refine z_iconst dX1_shortestAssignment_0 ?_
  refine z_istore_n dX1_shortestAssignment_1 (Nat.le_of_ble_eq_true rfl) ?_
  refine z_bipush dX1_shortestAssignment_2 ?_
  refine z_istore_n dX1_shortestAssignment_4 (Nat.le_of_ble_eq_true rfl) ?_
  skip
  exact z_at [(0, .ref 5), (1, .int (nI 1)), (2, .int (nI 8))] ⟨rfl, rfl, rfl, trivial⟩ (by
    refine z_iload_n dX1_shortestAssignment_5 (by exact rfl) ?_
    refine z_bipush dX1_shortestAssignment_6 ?_
    refine z_icmp_gt (tgt := 33) dX1_shortestAssignment_8 (by decide) (fun q9 => absurd q9 ((by decide))) (fun _ => ?_)
    refine z_aload_n dX1_shortestAssignment_11 (by exact rfl) ?_
    refine z_iload_n dX1_shortestAssignment_12 (by exact rfl) ?_
    refine z_cV dX1_shortestAssignment_13 zk_X1_121 (by exact rfl) (by exact rfl) (by exact rfl) (Nat.le_of_ble_eq_true rfl) (Nat.le_of_ble_eq_true rfl) (Nat.le_refl _) ?_
    refine sz (l + sd) o8 r8 (by rw [el, es]; rfl) ?_
    refine z_aload_n dX1_shortestAssignment_16 (by exact rfl) ?_
    refine z_iload_n dX1_shortestAssignment_17 (by exact rfl) ?_
    refine z_cV dX1_shortestAssignment_18 zk_X1_121 (by exact rfl) (by exact rfl) (by exact rfl) (Nat.le_of_ble_eq_true rfl) (Nat.le_of_ble_eq_true rfl) (Nat.le_refl _) ?_
    refine sz (l + r) o1 r1 (by rw [el, er]; rfl) ?_
    refine z_ge (tgt := 27) dX1_shortestAssignment_21 dX1_shortestAssignment_22 (by decide) (fun c21 => ?_) (fun c21 => ?_)
    · refine z_iinc dX1_shortestAssignment_27 (by exact rfl) ?_
      refine z_goto (tgt := 5) dX1_shortestAssignment_30 (by decide) ?_
      exact z_at [(0, .ref 5), (1, .int (nI 1)), (2, .int (nI 9))] ⟨rfl, rfl, rfl, trivial⟩ (by
        have hge : ¬ l + sd < l + r := fun q => by
          have := (pk_lLE (a := l + r) (b := l + sd) (by omega) (by omega)).mp c21
          omega
        rw [if_neg hge, if_neg hge] at hq
        exact t2 1 (l + r) o1 r1 (by rw [el, er]; rfl) (by omega) (fun q1 q2 => by rw [if_pos q1, if_pos q2] at hq; exact hq) (fun q1 q2 => by rw [if_pos q1, if_neg q2, if_pos q1] at hq; exact hq) (fun q1 q2 => by rw [if_neg q1, if_pos q2] at hq; exact hq) (fun q1 q2 => by rw [if_neg q1, if_neg q2, if_neg q1] at hq; exact hq))
    · refine z_iload_n dX1_shortestAssignment_25 (by exact rfl) ?_
      refine z_istore_n dX1_shortestAssignment_26 (Nat.le_of_ble_eq_true rfl) ?_
      refine z_iinc dX1_shortestAssignment_27 (by exact rfl) ?_
      refine z_goto (tgt := 5) dX1_shortestAssignment_30 (by decide) ?_
      exact z_at [(0, .ref 5), (1, .int (nI 8)), (2, .int (nI 9))] ⟨rfl, rfl, rfl, trivial⟩ (by
        have hlt : l + sd < l + r := by
          rcases Nat.lt_or_ge (l + sd) (l + r) with h | h
          · exact h
          · exact absurd ((pk_lLE (a := l + r) (b := l + sd) (by omega) (by omega)).mpr h) c21
        rw [if_pos hlt, if_pos hlt] at hq
        exact t2 8 (l + sd) o8 r8 (by rw [el, es]; rfl) (by omega) (fun q1 q2 => by rw [if_pos q1, if_pos q2] at hq; exact hq) (fun q1 q2 => by rw [if_pos q1, if_neg q2, if_pos q1] at hq; exact hq) (fun q1 q2 => by rw [if_neg q1, if_pos q2] at hq; exact hq) (fun q1 q2 => by rw [if_neg q1, if_neg q2, if_neg q1] at hq; exact hq))
    )
