/-! ===== the built world is of the fixed shape (printed by wip/tools/start2.py) ===== -/
def Lz (cA : Nat → ClassId) (ad : Nat → Nat) (D : zD) (f3 f4 : Nat → Option Nat) : va_W := [(ad 0, .inr (8, [.ref (ad 1), .ref (ad 2), .ref (ad 4), .int (D.1 0 3), .ref (ad 5), .ref (ad 37)])), (ad 1, .inr (6, [.int (D.1 1 0), .int (D.1 1 1), .int (D.1 1 2), .int (D.1 1 3)])), (ad 2, .inr (3, [.ref (ad 3), .int (D.1 2 1), .int (D.1 2 2)])), (ad 3, .inl (cA 0, 8, .inl (D.1 3))), (ad 4, .inl (cA 0, 4096, .inl (D.1 4))), (ad 5, .inr (1, [.ref (ad 6), .int (D.1 5 1), .int (D.1 5 2), .ref (ad 8), .ref (ad 9), .ref (ad 10), .ref (ad 20)])), (ad 6, .inr (2, [.ref (ad 7), .int (D.1 6 1)])), (ad 7, .inl (cA 2, 20000, .inl (D.1 7))), (ad 8, .inl (cA 0, 256, .inl (D.1 8))), (ad 9, .inl (cA 0, 1056, .inl (D.1 9))), (ad 10, .inr (0, [.ref (ad 11), .ref (ad 13)])), (ad 11, .inr (3, [.ref (ad 12), .int (D.1 11 1), .int (D.1 11 2)])), (ad 12, .inl (cA 0, 4, .inl (D.1 12))), (ad 13, .inr (5, [.ref (ad 14), .int (D.1 13 1), .int (D.1 13 2), .ref (ad 15), .ref (ad 16), .ref (ad 17), .int (D.1 13 6), .long (D.2 13 7)])), (ad 14, .inl (cA 1, 256, .inr (.inl (D.2 14)))), (ad 15, .inl (cA 1, 120, .inr (.inl (D.2 15)))), (ad 16, .inl (cA 0, 8, .inl (D.1 16))), (ad 17, .inl (cA 0, 8, .inl (D.1 17))), (ad 18, .inl (cA 1, 1, .inr (.inl (D.2 18)))), (ad 19, .inr (9, [.int (D.1 19 0), .int (D.1 19 1), .int (D.1 19 2), .int (D.1 19 3), .int (D.1 19 4), .int (D.1 19 5), .int (D.1 19 6), .ref (ad 52), .int (D.1 19 8), .ref (ad 53), .int (D.1 19 10), .ref (ad 54), .long (D.2 19 12), .int (D.1 19 13), .int (D.1 19 14), .ref (ad 55), .ref (ad 56), .ref (ad 57), .ref (ad 58), .ref (ad 59), .int (D.1 19 20), .ref (ad 60), .int (D.1 19 22), .int (D.1 19 23), .int (D.1 19 24), .ref (ad 61), .ref (ad 62), .int (D.1 19 27), .int (D.1 19 28), .int (D.1 19 29), .long (D.2 19 30), .int (D.1 19 31), .long (D.2 19 32), .long (D.2 19 33), .int (D.1 19 34), .int (D.1 19 35), .int (D.1 19 36), .int (D.1 19 37), .long (D.2 19 38), .int (D.1 19 39), .ref (ad 63), .ref (ad 64), .ref (ad 65), .int (D.1 19 43)])), (ad 20, .inl (cA 4, 8, .inr (.inr (.inr (.inr f4))))), (ad 21, .inr (7, [.ref (ad 22), .int (D.1 21 1), .int (D.1 21 2), .int (D.1 21 3), .int (D.1 21 4), .int (D.1 21 5), .long (D.2 21 6)])), (ad 22, .inl (cA 0, 256, .inl (D.1 22))), (ad 23, .inr (7, [.ref (ad 24), .int (D.1 23 1), .int (D.1 23 2), .int (D.1 23 3), .int (D.1 23 4), .int (D.1 23 5), .long (D.2 23 6)])), (ad 24, .inl (cA 0, 256, .inl (D.1 24))), (ad 25, .inr (7, [.ref (ad 26), .int (D.1 25 1), .int (D.1 25 2), .int (D.1 25 3), .int (D.1 25 4), .int (D.1 25 5), .long (D.2 25 6)])), (ad 26, .inl (cA 0, 256, .inl (D.1 26))), (ad 27, .inr (7, [.ref (ad 28), .int (D.1 27 1), .int (D.1 27 2), .int (D.1 27 3), .int (D.1 27 4), .int (D.1 27 5), .long (D.2 27 6)])), (ad 28, .inl (cA 0, 256, .inl (D.1 28))), (ad 29, .inr (7, [.ref (ad 30), .int (D.1 29 1), .int (D.1 29 2), .int (D.1 29 3), .int (D.1 29 4), .int (D.1 29 5), .long (D.2 29 6)])), (ad 30, .inl (cA 0, 256, .inl (D.1 30))), (ad 31, .inr (7, [.ref (ad 32), .int (D.1 31 1), .int (D.1 31 2), .int (D.1 31 3), .int (D.1 31 4), .int (D.1 31 5), .long (D.2 31 6)])), (ad 32, .inl (cA 0, 256, .inl (D.1 32))), (ad 33, .inr (7, [.ref (ad 34), .int (D.1 33 1), .int (D.1 33 2), .int (D.1 33 3), .int (D.1 33 4), .int (D.1 33 5), .long (D.2 33 6)])), (ad 34, .inl (cA 0, 256, .inl (D.1 34))), (ad 35, .inr (7, [.ref (ad 36), .int (D.1 35 1), .int (D.1 35 2), .int (D.1 35 3), .int (D.1 35 4), .int (D.1 35 5), .long (D.2 35 6)])), (ad 36, .inl (cA 0, 256, .inl (D.1 36))), (ad 37, .inr (4, [.ref (ad 38), .int (D.1 37 1), .int (D.1 37 2), .int (D.1 37 3), .ref (ad 39), .int (D.1 37 5), .ref (ad 40), .int (D.1 37 7), .int (D.1 37 8), .ref (ad 41), .ref (ad 50)])), (ad 38, .inl (cA 2, 20000, .inl (D.1 38))), (ad 39, .inr (6, [.int (D.1 39 0), .int (D.1 39 1), .int (D.1 39 2), .int (D.1 39 3)])), (ad 40, .inl (cA 0, 4096, .inl (D.1 40))), (ad 41, .inl (cA 3, 8, .inr (.inr (.inr (.inr f3))))), (ad 42, .inl (cA 0, 256, .inl (D.1 42))), (ad 43, .inl (cA 0, 256, .inl (D.1 43))), (ad 44, .inl (cA 0, 256, .inl (D.1 44))), (ad 45, .inl (cA 0, 256, .inl (D.1 45))), (ad 46, .inl (cA 0, 256, .inl (D.1 46))), (ad 47, .inl (cA 0, 256, .inl (D.1 47))), (ad 48, .inl (cA 0, 256, .inl (D.1 48))), (ad 49, .inl (cA 0, 256, .inl (D.1 49))), (ad 50, .inr (3, [.ref (ad 51), .int (D.1 50 1), .int (D.1 50 2)])), (ad 51, .inl (cA 0, 32, .inl (D.1 51))), (ad 52, .inl (cA 0, 8, .inl (D.1 52))), (ad 53, .inl (cA 0, 4096, .inl (D.1 53))), (ad 54, .inl (cA 1, 2500, .inr (.inl (D.2 54)))), (ad 55, .inl (cA 0, 264, .inl (D.1 55))), (ad 56, .inl (cA 0, 264, .inl (D.1 56))), (ad 57, .inl (cA 0, 264, .inl (D.1 57))), (ad 58, .inl (cA 0, 264, .inl (D.1 58))), (ad 59, .inl (cA 0, 256, .inl (D.1 59))), (ad 60, .inl (cA 1, 2500, .inr (.inl (D.2 60)))), (ad 61, .inl (cA 1, 256, .inr (.inl (D.2 61)))), (ad 62, .inl (cA 1, 256, .inr (.inl (D.2 62)))), (ad 63, .inl (cA 0, 4096, .inl (D.1 63))), (ad 64, .inl (cA 1, 2048, .inr (.inl (D.2 64)))), (ad 65, .inl (cA 0, 32, .inl (D.1 65)))]
def mi {α β : Type} (f : Nat → α → β) : Nat → List α → List β
  | _, [] => []
  | n, a :: l => f n a :: mi f (n + 1) l
theorem mi_at {α β : Type} (f : Nat → α → β) : ∀ (l : List α) (n j : Nat), (mi f n l)[j]? = (l[j]?).map (f (n + j))
  | [], n, j => by simp [mi]
  | a :: l, n, 0 => rfl
  | a :: l, n, j + 1 => by
    show (mi f (n + 1) l)[j]? = (l[j]?).map _
    rw [mi_at f l (n + 1) j, show n + 1 + j = n + (j + 1) by omega]
theorem mi_is {α β : Type} (f : Nat → α → β) (l : List α) : l.mapIdx f = mi f 0 l := by
  apply List.ext_getElem?
  intro j
  rw [List.getElem?_mapIdx, mi_at, Nat.zero_add]
def zcell' (ad : Nat → Nat) (cA : Nat → ClassId) (D : zD) (a : Nat) (sh : zS) : va_E := match sh.1 with
  | 0 => .inl (cA 0, sh.2.1, .inl (D.1 a))
  | 1 => .inl (cA 1, sh.2.1, .inr (.inl (D.2 a)))
  | 2 => .inl (cA 2, sh.2.1, .inl (D.1 a))
  | 3 => .inl (cA 3, sh.2.1, .inr (.inr (.inr (.inr (fun i => (sh.2.2[i]?).map ad)))))
  | 4 => .inl (cA 4, sh.2.1, .inr (.inr (.inr (.inr (fun i => (sh.2.2[i]?).map ad)))))
  | _ => .inr (sh.2.1, mi (fun k c => zfv ad D a k c) 0 sh.2.2)
theorem zcell_mi (ad : Nat → Nat) (cA : Nat → ClassId) (D : zD) (a : Nat) (sh : zS) : zcell ad cA D a sh = zcell' ad cA D a sh := by
  unfold zcell zcell'
  rw [mi_is]
  obtain ⟨n, x⟩ := sh
  match n with
  | 0 => rfl
  | 1 => rfl
  | 2 => rfl
  | 3 => rfl
  | 4 => rfl
  | n + 5 => rfl
theorem zws_mi (ad : Nat → Nat) (cA : Nat → ClassId) (D : zD) : zws ad cA D = mi (fun a sh => (ad a, zcell' ad cA D a sh)) 0 zSH := by
  unfold zws
  rw [mi_is]
  congr 1
  funext a sh
  rw [zcell_mi]
set_option maxRecDepth 100000 in
set_option maxHeartbeats 4000000 in
theorem Lz_is (cA : Nat → ClassId) (ad : Nat → Nat) (D : zD) : Lz cA ad D (fun i => ([42, 43, 44, 45, 46, 47, 48, 49][i]?).map ad) (fun i => ([21, 23, 25, 27, 29, 31, 33, 35][i]?).map ad) = zws ad cA D := by
  rw [zws_mi]
  unfold zSH Lz
  rfl
def D0 : zD := (fun a => match a with
  | 1 => fun k => ([1, 16, 64, 44100] : List Int32).getD k 0
  | 19 => fun k => ([0, 1, 16, 64, 44100, 0, 0, 0, 0, 0, 0, 0, 0, 0, 0, 0, 0, 0, 0, 0, 0, 0, 0, -1, 0, 0, 0, 0, 0, 0, 0, 0, 0, 0, 0, 0, 0, 0, 0, 0, 0, 0, 0, 0] : List Int32).getD k 0
  | 37 => fun k => ([0, 0, 0, -1, 0, 0, 0, 0, 0, 0, 0] : List Int32).getD k 0
  | 39 => fun k => ([1, 16, 64, 44100] : List Int32).getD k 0
  | _ => fun _ => 0, fun _ _ => 0)
def adl (a1 a2 : Nat → Nat) (q t b : Nat) : Nat → Nat := fun k => ([(a1 0), (a1 1), (a1 2), (a1 3), (a1 4), (a1 5), (a1 6), (a1 7), (a1 8), (a1 9), (a1 10), (a1 11), (a1 12), (a1 13), (a1 14), (a1 15), (a1 16), (a1 17), q, (a2 0), (a1 18), (a1 19), (a1 20), (a1 21), (a1 22), (a1 23), (a1 24), (a1 25), (a1 26), (a1 27), (a1 28), (a1 29), (a1 30), (a1 31), (a1 32), (a1 33), (a1 34), (a1 35), (a1 36), (a1 37), (a1 38), (a1 39), (a1 39) + 1 + 0, (a1 39) + 1 + 1, (a1 39) + 1 + 2, (a1 39) + 1 + 3, (a1 39) + 1 + 4, (a1 39) + 1 + 5, (a1 39) + 1 + 6, (a1 39) + 1 + 7, (a1 40), (a1 41), (a2 1), (a2 2), (a2 3), (a2 4), (a2 5), (a2 6), (a2 7), (a2 8), (a2 9), (a2 10), (a2 11), (a2 12), (a2 13), (a2 14), t, b] : List Nat).getD k 0
abbrev bws (cA : Nat → ClassId) (a1 a2 : Nat → Nat) (q : Nat) : va_W := F_X8 cA a1 ++ F_X9 cA a2 ++ [(q, .inl (cA 1, 1, .inr (.inl (fun _ => 0))))]
def zpl : List Nat := [0, 1, 2, 3, 4, 5, 6, 7, 8, 9, 10, 11, 12, 13, 14, 15, 16, 17, 65, 50, 18, 19, 20, 21, 22, 23, 24, 25, 26, 27, 28, 29, 30, 31, 32, 33, 34, 35, 36, 37, 38, 39, 40, 41, 42, 43, 44, 45, 46, 47, 48, 49, 51, 52, 53, 54, 55, 56, 57, 58, 59, 60, 61, 62, 63, 64]
set_option maxRecDepth 100000 in
theorem bws_P (cA : Nat → ClassId) (a1 a2 : Nat → Nat) (q t b : Nat) : zpl.filterMap (fun i => (bws cA a1 a2 q)[i]?) = Lz cA (adl a1 a2 q t b) D0 (fun i => if i < 8 then some ((a1 39) + 1 + i) else none) (va_up (va_up (va_up (va_up (va_up (va_up (va_up (va_up (fun _ => none) 0 (some (a1 19))) 1 (some (a1 21))) 2 (some (a1 23))) 3 (some (a1 25))) 4 (some (a1 27))) 5 (some (a1 29))) 6 (some (a1 31))) 7 (some (a1 33))) := rfl
set_option maxRecDepth 100000 in
theorem bws_D (cA : Nat → ClassId) (a1 a2 : Nat → Nat) (q t b : Nat) : zpl.map (fun i => (bws cA a1 a2 q)[i]?) = (Lz cA (adl a1 a2 q t b) D0 (fun i => if i < 8 then some ((a1 39) + 1 + i) else none) (va_up (va_up (va_up (va_up (va_up (va_up (va_up (va_up (fun _ => none) 0 (some (a1 19))) 1 (some (a1 21))) 2 (some (a1 23))) 3 (some (a1 25))) 4 (some (a1 27))) 5 (some (a1 29))) 6 (some (a1 31))) 7 (some (a1 33)))).map some := rfl
theorem bws_3 (a1 a2 : Nat → Nat) (q t b : Nat) : (fun i => if i < 8 then some ((a1 39) + 1 + i) else none) = (fun i => ([42, 43, 44, 45, 46, 47, 48, 49][i]?).map (adl a1 a2 q t b)) := by
  funext i
  match i with
  | 0 => rfl
  | 1 => rfl
  | 2 => rfl
  | 3 => rfl
  | 4 => rfl
  | 5 => rfl
  | 6 => rfl
  | 7 => rfl
  | i + 8 =>
    rw [if_neg (by omega)]
    rfl
theorem bws_4 (a1 a2 : Nat → Nat) (q t b : Nat) : (va_up (va_up (va_up (va_up (va_up (va_up (va_up (va_up (fun _ => none) 0 (some (a1 19))) 1 (some (a1 21))) 2 (some (a1 23))) 3 (some (a1 25))) 4 (some (a1 27))) 5 (some (a1 29))) 6 (some (a1 31))) 7 (some (a1 33))) = (fun i => ([21, 23, 25, 27, 29, 31, 33, 35][i]?).map (adl a1 a2 q t b)) := by
  funext i
  match i with
  | 0 => rfl
  | 1 => rfl
  | 2 => rfl
  | 3 => rfl
  | 4 => rfl
  | 5 => rfl
  | 6 => rfl
  | 7 => rfl
  | i + 8 =>
    unfold va_up
    simp
theorem zpl_nd : va_nd zpl = true := by decide +kernel
theorem bws_all (cA : Nat → ClassId) (a1 a2 : Nat → Nat) (q t b : Nat) {G : va_G} {A : Nat → Prop} {H : Heap} (hP : va_P G zcl (bws cA a1 a2 q) H) (hD : va_D A (bws cA a1 a2 q)) : va_P G zcl (zws (adl a1 a2 q t b) cA D0) H ∧ va_D A (zws (adl a1 a2 q t b) cA D0) := by
  have h1 := hP.sub zpl (bws_P cA a1 a2 q t b)
  have h2 := hD.sub zpl zpl_nd (bws_D cA a1 a2 q t b)
  rw [bws_3 a1 a2 q t b, bws_4 a1 a2 q t b, Lz_is] at h1 h2
  exact ⟨h1, h2⟩
