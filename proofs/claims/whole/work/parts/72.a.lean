/-! ===== a frame, its head unrolled ===== -/
theorem sHeader_b {β : Type} (T : Nat → Bool) (e ch fr n : Nat) (K : Nat → RS β) : rbind (sHeader T e ch fr n) K = (rbind (rit T e 14 (kEq 16382)) fun _ => rbind (rit T e 2 (kEq 0)) fun _ => rbind (rit T e 4 (kEq 6)) fun _ => rbind (rit T e 4 (kEq 0)) fun _ => rbind (rit T e 4 (kAsg ch)) fun asg => rbind (rit T e 4 (kEq 0)) fun _ => rbind (sNumber T e fr) fun _ => rbind (rit T e 8 (fun v => if v + 1 = n then 0 else 4)) fun _ => K asg) := by
  unfold sHeader
  simp only [rassoc, rpure_b]
theorem sFrame_b {β : Type} (T : Nat → Bool) (e ch bits fr n : Nat) (K : zRows → RS β) (p0 : Nat) : rbind (sFrame T e ch bits fr n) K p0 = (rbind (rit T e 14 (kEq 16382)) fun _ => rbind (rit T e 2 (kEq 0)) fun _ => rbind (rit T e 4 (kEq 6)) fun _ => rbind (rit T e 4 (kEq 0)) fun _ => rbind (rit T e 4 (kAsg ch)) fun asg => rbind (rit T e 4 (kEq 0)) fun _ => rbind (sNumber T e fr) fun _ => rbind (rit T e 8 (fun v => if v + 1 = n then 0 else 4)) fun _ => rbind (sSum T e 8 (p0 / 8)) fun _ => rbind (sRows T e n bits asg 0 ch (fun _ _ => 0)) fun R => fun p => (rbind (rit T e ((8 - p % 8) % 8) (kEq 0)) fun _ => fun p' => rbind (fun p' => rbind (sSum T e 16 (p0 / 8)) (fun _ q => zif (fitAll ch n bits (unite asg R)) (.inr (unite asg R, q)) (.inl (4, p'))) p') K p') p) p0 := by
  refine (rbind_c (m' := rbind (sHeader T e ch fr n) (fun asg => rbind (sSum T e 8 (p0 / 8)) fun _ => rbind (sRows T e n bits asg 0 ch (fun _ _ => 0)) fun R => rbind (fun p => rit T e ((8 - p % 8) % 8) (kEq 0) p) fun _ => fun p => rbind (sSum T e 16 (p0 / 8)) (fun _ q => zif (fitAll ch n bits (unite asg R)) (.inr (unite asg R, q)) (.inl (4, p))) p)) ?_).trans ?_
  · unfold sFrame
    rfl
  · rw [rassoc, ← sHeader_b]
    refine congrFun (congrArg (rbind (sHeader T e ch fr n)) ?_) p0
    funext asg
    rw [rassoc]
    refine congrArg (rbind (sSum T e 8 (p0 / 8))) ?_
    funext _
    rw [rassoc]
    refine congrArg (rbind (sRows T e n bits asg 0 ch (fun _ _ => 0))) ?_
    funext R
    rw [rassoc]
    funext p
    exact rbind_c rfl
