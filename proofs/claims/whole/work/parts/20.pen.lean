/-! ===== Pen ===== -/
theorem c_size {d : Nat} {D : zD} {Q : zQ} (hq : Q (.inl (some (.int ((D.1 6 1 + 7) >>> (3 &&& 31))))) 0 D) : ZM yX2_size iX2_size d [.ref 6] D Q := by
  refine z_method (by decide) rfl (by decide) ?_
  refine z_at [(0, .ref 6)] ⟨rfl, trivial⟩ ?_
  refine z_aload_n dX2_size_0 (by exact rfl) ?_
  refine z_gfI zfx_X2_15 (by exact rfl) dX2_size_1 ?_
  refine z_bipush dX2_size_4 ?_
  refine z_iadd dX2_size_6 ?_
  refine z_iconst dX2_size_7 ?_
  refine z_ishr dX2_size_8 ?_
  exact z_iret (st := []) rfl dX2_size_9 hq
