/-! ===== .. and that it's enough ===== -/
section ZSTEP
variable {M : zM} {k pc len : Nat} {L : zLo} {st : List Value} {D : zD} {Q : zQ}
theorem zbr_t {off : Int} {P : Prop} {K : Nat → Prop} (h : zbr pc off P K) : (pc : Int) + off = ((((pc : Int) + off).toNat : Nat) : Int) := (Int.toNat_of_nonneg h.1).symm
theorem zs_iadd (hd : decode (zcc M) pc = .ok (.iadd, len)) (h : zwp M Q (.iadd) len k pc L st D (Z M k pc L st D Q) (fun pc L st D => Z M k pc L st D Q)) : Z M k pc L st D Q := by
  unfold zwp at h
  dsimp only at h
  obtain ⟨rfl, h⟩ := h; unfold zb2I at h; split at h
  next => exact z_iadd hd h
  next => exact h.elim
theorem zs_isub (hd : decode (zcc M) pc = .ok (.isub, len)) (h : zwp M Q (.isub) len k pc L st D (Z M k pc L st D Q) (fun pc L st D => Z M k pc L st D Q)) : Z M k pc L st D Q := by
  unfold zwp at h
  dsimp only at h
  obtain ⟨rfl, h⟩ := h; unfold zb2I at h; split at h
  next => exact z_isub hd h
  next => exact h.elim
theorem zs_imul (hd : decode (zcc M) pc = .ok (.imul, len)) (h : zwp M Q (.imul) len k pc L st D (Z M k pc L st D Q) (fun pc L st D => Z M k pc L st D Q)) : Z M k pc L st D Q := by
  unfold zwp at h
  dsimp only at h
  obtain ⟨rfl, h⟩ := h; unfold zb2I at h; split at h
  next => exact z_imul hd h
  next => exact h.elim
theorem zs_iand (hd : decode (zcc M) pc = .ok (.iand, len)) (h : zwp M Q (.iand) len k pc L st D (Z M k pc L st D Q) (fun pc L st D => Z M k pc L st D Q)) : Z M k pc L st D Q := by
  unfold zwp at h
  dsimp only at h
  obtain ⟨rfl, h⟩ := h; unfold zb2I at h; split at h
  next => exact z_iand hd h
  next => exact h.elim
theorem zs_ior (hd : decode (zcc M) pc = .ok (.ior, len)) (h : zwp M Q (.ior) len k pc L st D (Z M k pc L st D Q) (fun pc L st D => Z M k pc L st D Q)) : Z M k pc L st D Q := by
  unfold zwp at h
  dsimp only at h
  obtain ⟨rfl, h⟩ := h; unfold zb2I at h; split at h
  next => exact z_ior hd h
  next => exact h.elim
theorem zs_ixor (hd : decode (zcc M) pc = .ok (.ixor, len)) (h : zwp M Q (.ixor) len k pc L st D (Z M k pc L st D Q) (fun pc L st D => Z M k pc L st D Q)) : Z M k pc L st D Q := by
  unfold zwp at h
  dsimp only at h
  obtain ⟨rfl, h⟩ := h; unfold zb2I at h; split at h
  next => exact z_ixor hd h
  next => exact h.elim
theorem zs_ishl (hd : decode (zcc M) pc = .ok (.ishl, len)) (h : zwp M Q (.ishl) len k pc L st D (Z M k pc L st D Q) (fun pc L st D => Z M k pc L st D Q)) : Z M k pc L st D Q := by
  unfold zwp at h
  dsimp only at h
  obtain ⟨rfl, h⟩ := h; unfold zb2I at h; split at h
  next => exact z_ishl hd h
  next => exact h.elim
theorem zs_ishr (hd : decode (zcc M) pc = .ok (.ishr, len)) (h : zwp M Q (.ishr) len k pc L st D (Z M k pc L st D Q) (fun pc L st D => Z M k pc L st D Q)) : Z M k pc L st D Q := by
  unfold zwp at h
  dsimp only at h
  obtain ⟨rfl, h⟩ := h; unfold zb2I at h; split at h
  next => exact z_ishr hd h
  next => exact h.elim
theorem zs_ladd (hd : decode (zcc M) pc = .ok (.ladd, len)) (h : zwp M Q (.ladd) len k pc L st D (Z M k pc L st D Q) (fun pc L st D => Z M k pc L st D Q)) : Z M k pc L st D Q := by
  unfold zwp at h
  dsimp only at h
  obtain ⟨rfl, h⟩ := h; unfold zb2J at h; split at h
  next => exact z_ladd hd h
  next => exact h.elim
theorem zs_lsub (hd : decode (zcc M) pc = .ok (.lsub, len)) (h : zwp M Q (.lsub) len k pc L st D (Z M k pc L st D Q) (fun pc L st D => Z M k pc L st D Q)) : Z M k pc L st D Q := by
  unfold zwp at h
  dsimp only at h
  obtain ⟨rfl, h⟩ := h; unfold zb2J at h; split at h
  next => exact z_lsub hd h
  next => exact h.elim
theorem zs_lmul (hd : decode (zcc M) pc = .ok (.lmul, len)) (h : zwp M Q (.lmul) len k pc L st D (Z M k pc L st D Q) (fun pc L st D => Z M k pc L st D Q)) : Z M k pc L st D Q := by
  unfold zwp at h
  dsimp only at h
  obtain ⟨rfl, h⟩ := h; unfold zb2J at h; split at h
  next => exact z_lmul hd h
  next => exact h.elim
theorem zs_land (hd : decode (zcc M) pc = .ok (.land, len)) (h : zwp M Q (.land) len k pc L st D (Z M k pc L st D Q) (fun pc L st D => Z M k pc L st D Q)) : Z M k pc L st D Q := by
  unfold zwp at h
  dsimp only at h
  obtain ⟨rfl, h⟩ := h; unfold zb2J at h; split at h
  next => exact z_land hd h
  next => exact h.elim
theorem zs_lor (hd : decode (zcc M) pc = .ok (.lor, len)) (h : zwp M Q (.lor) len k pc L st D (Z M k pc L st D Q) (fun pc L st D => Z M k pc L st D Q)) : Z M k pc L st D Q := by
  unfold zwp at h
  dsimp only at h
  obtain ⟨rfl, h⟩ := h; unfold zb2J at h; split at h
  next => exact z_lor hd h
  next => exact h.elim
theorem zs_lxor (hd : decode (zcc M) pc = .ok (.lxor, len)) (h : zwp M Q (.lxor) len k pc L st D (Z M k pc L st D Q) (fun pc L st D => Z M k pc L st D Q)) : Z M k pc L st D Q := by
  unfold zwp at h
  dsimp only at h
  obtain ⟨rfl, h⟩ := h; unfold zb2J at h; split at h
  next => exact z_lxor hd h
  next => exact h.elim
theorem zs_idiv (hd : decode (zcc M) pc = .ok (.idiv, len)) (h : zwp M Q (.idiv) len k pc L st D (Z M k pc L st D Q) (fun pc L st D => Z M k pc L st D Q)) : Z M k pc L st D Q := by
  unfold zwp at h
  dsimp only at h
  obtain ⟨rfl, h⟩ := h; unfold zdI at h; split at h
  next => exact z_idiv hd h.1 h.2
  next => exact h.elim
theorem zs_irem (hd : decode (zcc M) pc = .ok (.irem, len)) (h : zwp M Q (.irem) len k pc L st D (Z M k pc L st D Q) (fun pc L st D => Z M k pc L st D Q)) : Z M k pc L st D Q := by
  unfold zwp at h
  dsimp only at h
  obtain ⟨rfl, h⟩ := h; unfold zdI at h; split at h
  next => exact z_irem hd h.1 h.2
  next => exact h.elim
theorem zs_ldiv (hd : decode (zcc M) pc = .ok (.ldiv, len)) (h : zwp M Q (.ldiv) len k pc L st D (Z M k pc L st D Q) (fun pc L st D => Z M k pc L st D Q)) : Z M k pc L st D Q := by
  unfold zwp at h
  dsimp only at h
  obtain ⟨rfl, h⟩ := h; unfold zdJ at h; split at h
  next => exact z_ldiv hd h.1 h.2
  next => exact h.elim
theorem zs_lrem (hd : decode (zcc M) pc = .ok (.lrem, len)) (h : zwp M Q (.lrem) len k pc L st D (Z M k pc L st D Q) (fun pc L st D => Z M k pc L st D Q)) : Z M k pc L st D Q := by
  unfold zwp at h
  dsimp only at h
  obtain ⟨rfl, h⟩ := h; unfold zdJ at h; split at h
  next => exact z_lrem hd h.1 h.2
  next => exact h.elim
theorem zs_ineg (hd : decode (zcc M) pc = .ok (.ineg, len)) (h : zwp M Q (.ineg) len k pc L st D (Z M k pc L st D Q) (fun pc L st D => Z M k pc L st D Q)) : Z M k pc L st D Q := by
  unfold zwp at h
  dsimp only at h
  obtain ⟨rfl, h⟩ := h; split at h
  next => exact z_ineg hd h
  next => exact h.elim
theorem zs_lneg (hd : decode (zcc M) pc = .ok (.lneg, len)) (h : zwp M Q (.lneg) len k pc L st D (Z M k pc L st D Q) (fun pc L st D => Z M k pc L st D Q)) : Z M k pc L st D Q := by
  unfold zwp at h
  dsimp only at h
  obtain ⟨rfl, h⟩ := h; split at h
  next => exact z_lneg hd h
  next => exact h.elim
theorem zs_i2l (hd : decode (zcc M) pc = .ok (.i2l, len)) (h : zwp M Q (.i2l) len k pc L st D (Z M k pc L st D Q) (fun pc L st D => Z M k pc L st D Q)) : Z M k pc L st D Q := by
  unfold zwp at h
  dsimp only at h
  obtain ⟨rfl, h⟩ := h; split at h
  next => exact z_i2l hd h
  next => exact h.elim
theorem zs_l2i (hd : decode (zcc M) pc = .ok (.l2i, len)) (h : zwp M Q (.l2i) len k pc L st D (Z M k pc L st D Q) (fun pc L st D => Z M k pc L st D Q)) : Z M k pc L st D Q := by
  unfold zwp at h
  dsimp only at h
  obtain ⟨rfl, h⟩ := h; split at h
  next => exact z_l2i hd h
  next => exact h.elim
theorem zs_i2b (hd : decode (zcc M) pc = .ok (.i2b, len)) (h : zwp M Q (.i2b) len k pc L st D (Z M k pc L st D Q) (fun pc L st D => Z M k pc L st D Q)) : Z M k pc L st D Q := by
  unfold zwp at h
  dsimp only at h
  obtain ⟨rfl, h⟩ := h; split at h
  next => exact z_i2b hd h
  next => exact h.elim
theorem zs_lshl (hd : decode (zcc M) pc = .ok (.lshl, len)) (h : zwp M Q (.lshl) len k pc L st D (Z M k pc L st D Q) (fun pc L st D => Z M k pc L st D Q)) : Z M k pc L st D Q := by
  unfold zwp at h
  dsimp only at h
  obtain ⟨rfl, h⟩ := h; split at h
  next => exact z_lshl hd h
  next => exact h.elim
theorem zs_lshr (hd : decode (zcc M) pc = .ok (.lshr, len)) (h : zwp M Q (.lshr) len k pc L st D (Z M k pc L st D Q) (fun pc L st D => Z M k pc L st D Q)) : Z M k pc L st D Q := by
  unfold zwp at h
  dsimp only at h
  obtain ⟨rfl, h⟩ := h; split at h
  next => exact z_lshr hd h
  next => exact h.elim
theorem zs_lcmp (hd : decode (zcc M) pc = .ok (.lcmp, len)) (h : zwp M Q (.lcmp) len k pc L st D (Z M k pc L st D Q) (fun pc L st D => Z M k pc L st D Q)) : Z M k pc L st D Q := by
  unfold zwp at h
  dsimp only at h
  obtain ⟨rfl, h⟩ := h; split at h
  next => exact z_lcmp hd h
  next => exact h.elim
theorem zs_iconst {n : Int} (hd : decode (zcc M) pc = .ok (.iconst n, len)) (h : zwp M Q (.iconst n) len k pc L st D (Z M k pc L st D Q) (fun pc L st D => Z M k pc L st D Q)) : Z M k pc L st D Q := by
  unfold zwp at h
  dsimp only at h
  obtain ⟨rfl, h⟩ := h; exact z_iconst hd h
theorem zs_bipush {n : Int} (hd : decode (zcc M) pc = .ok (.bipush n, len)) (h : zwp M Q (.bipush n) len k pc L st D (Z M k pc L st D Q) (fun pc L st D => Z M k pc L st D Q)) : Z M k pc L st D Q := by
  unfold zwp at h
  dsimp only at h
  obtain ⟨rfl, h⟩ := h; exact z_bipush hd h
theorem zs_sipush {n : Int} (hd : decode (zcc M) pc = .ok (.sipush n, len)) (h : zwp M Q (.sipush n) len k pc L st D (Z M k pc L st D Q) (fun pc L st D => Z M k pc L st D Q)) : Z M k pc L st D Q := by
  unfold zwp at h
  dsimp only at h
  obtain ⟨rfl, h⟩ := h; exact z_sipush hd h
theorem zs_lconst {n : Fin 2} (hd : decode (zcc M) pc = .ok (.lconst n, len)) (h : zwp M Q (.lconst n) len k pc L st D (Z M k pc L st D Q) (fun pc L st D => Z M k pc L st D Q)) : Z M k pc L st D Q := by
  unfold zwp at h
  dsimp only at h
  obtain ⟨rfl, h⟩ := h; exact z_lconst hd h
theorem zs_ldc {j : Nat} (hd : decode (zcc M) pc = .ok (.ldc j, len)) (h : zwp M Q (.ldc j) len k pc L st D (Z M k pc L st D Q) (fun pc L st D => Z M k pc L st D Q)) : Z M k pc L st D Q := by
  unfold zwp at h
  dsimp only at h
  obtain ⟨rfl, h⟩ := h; split at h
  next v hv => exact z_ldc hd (zcix_ok hv) h
  next => exact h.elim
theorem zs_ldc2_w {j : Nat} (hd : decode (zcc M) pc = .ok (.ldc2_w j, len)) (h : zwp M Q (.ldc2_w j) len k pc L st D (Z M k pc L st D Q) (fun pc L st D => Z M k pc L st D Q)) : Z M k pc L st D Q := by
  unfold zwp at h
  dsimp only at h
  obtain ⟨rfl, h⟩ := h; split at h
  next v hv => exact z_ldc2 hd (zclx_ok hv) h
  next => exact h.elim
theorem zs_iload_n {n : Fin 4} (hd : decode (zcc M) pc = .ok (.iload_n n, len)) (h : zwp M Q (.iload_n n) len k pc L st D (Z M k pc L st D Q) (fun pc L st D => Z M k pc L st D Q)) : Z M k pc L st D Q := by
  unfold zwp at h
  dsimp only at h
  obtain ⟨rfl, h⟩ := h; unfold zldI at h; split at h
  next x hx => exact z_iload_n hd hx h
  next => exact h.elim
theorem zs_istore_n {n : Fin 4} (hd : decode (zcc M) pc = .ok (.istore_n n, len)) (h : zwp M Q (.istore_n n) len k pc L st D (Z M k pc L st D Q) (fun pc L st D => Z M k pc L st D Q)) : Z M k pc L st D Q := by
  unfold zwp at h
  dsimp only at h
  obtain ⟨rfl, hn, h⟩ := h; split at h
  next => exact z_istore_n hd hn h
  next => exact h.elim
theorem zs_iload {j : Nat} (hd : decode (zcc M) pc = .ok (.iload j, len)) (h : zwp M Q (.iload j) len k pc L st D (Z M k pc L st D Q) (fun pc L st D => Z M k pc L st D Q)) : Z M k pc L st D Q := by
  unfold zwp at h
  dsimp only at h
  obtain ⟨rfl, h⟩ := h; unfold zldI at h; split at h
  next x hx => exact z_iload hd hx h
  next => exact h.elim
theorem zs_istore {j : Nat} (hd : decode (zcc M) pc = .ok (.istore j, len)) (h : zwp M Q (.istore j) len k pc L st D (Z M k pc L st D Q) (fun pc L st D => Z M k pc L st D Q)) : Z M k pc L st D Q := by
  unfold zwp at h
  dsimp only at h
  obtain ⟨rfl, hn, h⟩ := h; split at h
  next => exact z_istore hd hn h
  next => exact h.elim
theorem zs_lload_n {n : Fin 4} (hd : decode (zcc M) pc = .ok (.lload_n n, len)) (h : zwp M Q (.lload_n n) len k pc L st D (Z M k pc L st D Q) (fun pc L st D => Z M k pc L st D Q)) : Z M k pc L st D Q := by
  unfold zwp at h
  dsimp only at h
  obtain ⟨rfl, h⟩ := h; unfold zldJ at h; split at h
  next x hx => exact z_lload_n hd hx h
  next => exact h.elim
theorem zs_lstore_n {n : Fin 4} (hd : decode (zcc M) pc = .ok (.lstore_n n, len)) (h : zwp M Q (.lstore_n n) len k pc L st D (Z M k pc L st D Q) (fun pc L st D => Z M k pc L st D Q)) : Z M k pc L st D Q := by
  unfold zwp at h
  dsimp only at h
  obtain ⟨rfl, hn, h⟩ := h; split at h
  next => exact z_lstore_n hd hn h
  next => exact h.elim
theorem zs_lload {j : Nat} (hd : decode (zcc M) pc = .ok (.lload j, len)) (h : zwp M Q (.lload j) len k pc L st D (Z M k pc L st D Q) (fun pc L st D => Z M k pc L st D Q)) : Z M k pc L st D Q := by
  unfold zwp at h
  dsimp only at h
  obtain ⟨rfl, h⟩ := h; unfold zldJ at h; split at h
  next x hx => exact z_lload hd hx h
  next => exact h.elim
theorem zs_lstore {j : Nat} (hd : decode (zcc M) pc = .ok (.lstore j, len)) (h : zwp M Q (.lstore j) len k pc L st D (Z M k pc L st D Q) (fun pc L st D => Z M k pc L st D Q)) : Z M k pc L st D Q := by
  unfold zwp at h
  dsimp only at h
  obtain ⟨rfl, hn, h⟩ := h; split at h
  next => exact z_lstore hd hn h
  next => exact h.elim
theorem zs_aload_n {n : Fin 4} (hd : decode (zcc M) pc = .ok (.aload_n n, len)) (h : zwp M Q (.aload_n n) len k pc L st D (Z M k pc L st D Q) (fun pc L st D => Z M k pc L st D Q)) : Z M k pc L st D Q := by
  unfold zwp at h
  dsimp only at h
  obtain ⟨rfl, h⟩ := h; unfold zldA at h; split at h
  next x hx => exact z_aload_n hd hx h
  next => exact h.elim
theorem zs_astore_n {n : Fin 4} (hd : decode (zcc M) pc = .ok (.astore_n n, len)) (h : zwp M Q (.astore_n n) len k pc L st D (Z M k pc L st D Q) (fun pc L st D => Z M k pc L st D Q)) : Z M k pc L st D Q := by
  unfold zwp at h
  dsimp only at h
  obtain ⟨rfl, hn, h⟩ := h; split at h
  next => exact z_astore_n hd hn h
  next => exact h.elim
theorem zs_aload {j : Nat} (hd : decode (zcc M) pc = .ok (.aload j, len)) (h : zwp M Q (.aload j) len k pc L st D (Z M k pc L st D Q) (fun pc L st D => Z M k pc L st D Q)) : Z M k pc L st D Q := by
  unfold zwp at h
  dsimp only at h
  obtain ⟨rfl, h⟩ := h; unfold zldA at h; split at h
  next x hx => exact z_aload hd hx h
  next => exact h.elim
theorem zs_astore {j : Nat} (hd : decode (zcc M) pc = .ok (.astore j, len)) (h : zwp M Q (.astore j) len k pc L st D (Z M k pc L st D Q) (fun pc L st D => Z M k pc L st D Q)) : Z M k pc L st D Q := by
  unfold zwp at h
  dsimp only at h
  obtain ⟨rfl, hn, h⟩ := h; split at h
  next => exact z_astore hd hn h
  next => exact h.elim
theorem zs_iinc {j : Nat} {n : Int} (hd : decode (zcc M) pc = .ok (.iinc j n, len)) (h : zwp M Q (.iinc j n) len k pc L st D (Z M k pc L st D Q) (fun pc L st D => Z M k pc L st D Q)) : Z M k pc L st D Q := by
  unfold zwp at h
  dsimp only at h
  obtain ⟨rfl, h⟩ := h; split at h
  next x hx => exact z_iinc hd hx h
  next => exact h.elim
theorem zs_dup (hd : decode (zcc M) pc = .ok (.dup, len)) (h : zwp M Q (.dup) len k pc L st D (Z M k pc L st D Q) (fun pc L st D => Z M k pc L st D Q)) : Z M k pc L st D Q := by
  unfold zwp at h
  dsimp only at h
  obtain ⟨rfl, h⟩ := h; split at h
  next => exact z_dup hd h.1 h.2
  next => exact h.elim
theorem zs_dup2 (hd : decode (zcc M) pc = .ok (.dup2, len)) (h : zwp M Q (.dup2) len k pc L st D (Z M k pc L st D Q) (fun pc L st D => Z M k pc L st D Q)) : Z M k pc L st D Q := by
  unfold zwp at h
  dsimp only at h
  obtain ⟨rfl, h⟩ := h; split at h
  next => exact z_dup2 hd h.1 h.2.1 h.2.2
  next => exact h.elim
theorem zs_ifCond {cnd : ClassFile.Cond} {off : Int} (hd : decode (zcc M) pc = .ok (.ifCond cnd off, len)) (h : zwp M Q (.ifCond cnd off) len k pc L st D (Z M k pc L st D Q) (fun pc L st D => Z M k pc L st D Q)) : Z M k pc L st D Q := by
  unfold zwp at h
  dsimp only at h
  obtain ⟨rfl, h⟩ := h; split at h
  next =>
    cases cnd with
    | eq => exact z_if_eq hd (zbr_t h) h.2.1 (fun q => h.2.2 q)
    | ne => exact z_if_ne hd (zbr_t h) h.2.1 (fun q => h.2.2 (fun r => r q))
    | lt => exact z_if_lt hd (zbr_t h) h.2.1 (fun q => h.2.2 q)
    | ge => exact z_if_ge hd (zbr_t h) h.2.1 (fun q => h.2.2 q)
    | gt => exact z_if_gt hd (zbr_t h) h.2.1 (fun q => h.2.2 q)
    | le => exact z_if_le hd (zbr_t h) h.2.1 (fun q => h.2.2 q)
  next => exact h.elim
theorem zs_if_icmp {cnd : ClassFile.Cond} {off : Int} (hd : decode (zcc M) pc = .ok (.if_icmp cnd off, len)) (h : zwp M Q (.if_icmp cnd off) len k pc L st D (Z M k pc L st D Q) (fun pc L st D => Z M k pc L st D Q)) : Z M k pc L st D Q := by
  unfold zwp at h
  dsimp only at h
  obtain ⟨rfl, h⟩ := h; split at h
  next =>
    cases cnd with
    | eq => exact z_icmp_eq hd (zbr_t h) h.2.1 (fun q => h.2.2 q)
    | ne => exact z_icmp_ne hd (zbr_t h) h.2.1 (fun q => h.2.2 (fun r => r q))
    | lt => exact z_icmp_lt hd (zbr_t h) h.2.1 (fun q => h.2.2 q)
    | ge => exact z_icmp_ge hd (zbr_t h) h.2.1 (fun q => h.2.2 q)
    | gt => exact z_icmp_gt hd (zbr_t h) h.2.1 (fun q => h.2.2 q)
    | le => exact z_icmp_le hd (zbr_t h) h.2.1 (fun q => h.2.2 q)
  next => exact h.elim
theorem zs_goto {off : Int} (hd : decode (zcc M) pc = .ok (.goto off, len)) (h : zwp M Q (.goto off) len k pc L st D (Z M k pc L st D Q) (fun pc L st D => Z M k pc L st D Q)) : Z M k pc L st D Q := by
  unfold zwp at h
  dsimp only at h
  obtain ⟨rfl, h0, h⟩ := h; exact z_goto hd (Int.toNat_of_nonneg h0).symm h
theorem zs_getfield {j : Nat} (hd : decode (zcc M) pc = .ok (.getfield j, len)) (h : zwp M Q (.getfield j) len k pc L st D (Z M k pc L st D Q) (fun pc L st D => Z M k pc L st D Q)) : Z M k pc L st D Q := by
  unfold zwp at h
  dsimp only at h
  obtain ⟨rfl, h⟩ := h
  split at h
  next a r =>
    split at h
    next ci f t hx =>
      have hk := (zfx_ok hx).1
      split at h
      next hc => obtain ⟨fl, h1, h2⟩ := zfc_ok hc; exact z_getI hk h1 h2 hd h
      next hc => obtain ⟨fl, h1, h2⟩ := zfc_ok hc; exact z_getL hk h1 h2 hd h
      next c hc => obtain ⟨fl, h1, h2⟩ := zfc_ok hc; exact z_getA hk h1 h2 hd h
      next => exact h.elim
    next => exact h.elim
  next => exact h.elim
theorem zs_putfield {j : Nat} (hd : decode (zcc M) pc = .ok (.putfield j, len)) (h : zwp M Q (.putfield j) len k pc L st D (Z M k pc L st D Q) (fun pc L st D => Z M k pc L st D Q)) : Z M k pc L st D Q := by
  unfold zwp at h
  dsimp only at h
  obtain ⟨rfl, h⟩ := h
  split at h
  next x a r =>
    split at h
    next ci f t hx => obtain ⟨ht, hc, h⟩ := h; obtain ⟨fl, h1, h2⟩ := zfc_ok hc; exact z_putI ((zfx_ok hx).2.1 ht) h1 h2 hd h
    next => exact h.elim
  next x a r =>
    split at h
    next ci f t hx => obtain ⟨ht, hc, h⟩ := h; obtain ⟨fl, h1, h2⟩ := zfc_ok hc; exact z_putL ((zfx_ok hx).2.2 ht) h1 h2 hd h
    next => exact h.elim
  next => exact h.elim
theorem zs_iaload (hd : decode (zcc M) pc = .ok (.iaload, len)) (h : zwp M Q (.iaload) len k pc L st D (Z M k pc L st D Q) (fun pc L st D => Z M k pc L st D Q)) : Z M k pc L st D Q := by
  unfold zwp at h
  dsimp only at h
  obtain ⟨rfl, h⟩ := h; split at h
  next =>
    split at h
    next n hx => obtain ⟨r9, hs⟩ := zac_ok hx; exact z_iald hs hd h.1 h.2
    next => exact h.elim
  next => exact h.elim
theorem zs_baload (hd : decode (zcc M) pc = .ok (.baload, len)) (h : zwp M Q (.baload) len k pc L st D (Z M k pc L st D Q) (fun pc L st D => Z M k pc L st D Q)) : Z M k pc L st D Q := by
  unfold zwp at h
  dsimp only at h
  obtain ⟨rfl, h⟩ := h; split at h
  next =>
    split at h
    next n hx => obtain ⟨r9, hs⟩ := zac_ok hx; exact z_bald hs hd h.1 h.2
    next => exact h.elim
  next => exact h.elim
theorem zs_laload (hd : decode (zcc M) pc = .ok (.laload, len)) (h : zwp M Q (.laload) len k pc L st D (Z M k pc L st D Q) (fun pc L st D => Z M k pc L st D Q)) : Z M k pc L st D Q := by
  unfold zwp at h
  dsimp only at h
  obtain ⟨rfl, h⟩ := h; split at h
  next =>
    split at h
    next n hx => obtain ⟨r9, hs⟩ := zac_ok hx; exact z_lald hs hd h.1 h.2
    next => exact h.elim
  next => exact h.elim
theorem zs_iastore (hd : decode (zcc M) pc = .ok (.iastore, len)) (h : zwp M Q (.iastore) len k pc L st D (Z M k pc L st D Q) (fun pc L st D => Z M k pc L st D Q)) : Z M k pc L st D Q := by
  unfold zwp at h
  dsimp only at h
  obtain ⟨rfl, h⟩ := h; split at h
  next =>
    split at h
    next n hx => obtain ⟨r9, hs⟩ := zac_ok hx; exact z_iast hs hd h.1 h.2
    next => exact h.elim
  next => exact h.elim
theorem zs_bastore (hd : decode (zcc M) pc = .ok (.bastore, len)) (h : zwp M Q (.bastore) len k pc L st D (Z M k pc L st D Q) (fun pc L st D => Z M k pc L st D Q)) : Z M k pc L st D Q := by
  unfold zwp at h
  dsimp only at h
  obtain ⟨rfl, h⟩ := h; split at h
  next =>
    split at h
    next n hx => obtain ⟨r9, hs⟩ := zac_ok hx; exact z_bast hs hd h.1 h.2
    next => exact h.elim
  next => exact h.elim
theorem zs_lastore (hd : decode (zcc M) pc = .ok (.lastore, len)) (h : zwp M Q (.lastore) len k pc L st D (Z M k pc L st D Q) (fun pc L st D => Z M k pc L st D Q)) : Z M k pc L st D Q := by
  unfold zwp at h
  dsimp only at h
  obtain ⟨rfl, h⟩ := h; split at h
  next =>
    split at h
    next n hx => obtain ⟨r9, hs⟩ := zac_ok hx; exact z_last hs hd h.1 h.2
    next => exact h.elim
  next => exact h.elim
theorem zs_arraylength (hd : decode (zcc M) pc = .ok (.arraylength, len)) (h : zwp M Q (.arraylength) len k pc L st D (Z M k pc L st D Q) (fun pc L st D => Z M k pc L st D Q)) : Z M k pc L st D Q := by
  unfold zwp at h
  dsimp only at h
  obtain ⟨rfl, h⟩ := h; split at h
  next =>
    split at h
    next n hx => obtain ⟨r9, hs⟩ := zac_ok hx; exact z_alen hs hd rfl h
    next => exact h.elim
  next => exact h.elim
theorem zs_ireturn (hd : decode (zcc M) pc = .ok (.ireturn, len)) (h : zwp M Q (.ireturn) len k pc L st D (Z M k pc L st D Q) (fun pc L st D => Z M k pc L st D Q)) : Z M k pc L st D Q := by
  unfold zwp at h
  dsimp only at h
  obtain ⟨rfl, h⟩ := h; split at h
  next =>
    obtain ⟨hr, hq⟩ := h
    rcases hr with hr | ⟨hr, hn⟩
    · exact z_iret (st := []) hr hd hq
    · exact z_zret (st := []) hn hr hd hq
  next => exact h.elim
theorem zs_lreturn (hd : decode (zcc M) pc = .ok (.lreturn, len)) (h : zwp M Q (.lreturn) len k pc L st D (Z M k pc L st D Q) (fun pc L st D => Z M k pc L st D Q)) : Z M k pc L st D Q := by
  unfold zwp at h
  dsimp only at h
  obtain ⟨rfl, h⟩ := h; split at h
  next => exact z_lret (st := []) h.1 hd h.2
  next => exact h.elim
theorem zs_return_ (hd : decode (zcc M) pc = .ok (.return_, len)) (h : zwp M Q (.return_) len k pc L st D (Z M k pc L st D Q) (fun pc L st D => Z M k pc L st D Q)) : Z M k pc L st D Q := by
  unfold zwp at h
  dsimp only at h
  obtain ⟨rfl, h⟩ := h; split at h
  next => exact z_vret (st := []) h.1 hd h.2
  next => exact h.elim
theorem z_step {i : Instr} (hd : decode (zcc M) pc = .ok (i, len)) (h : zwp M Q i len k pc L st D (Z M k pc L st D Q) (fun pc L st D => Z M k pc L st D Q)) : Z M k pc L st D Q := by
  cases i with
  | iadd => exact zs_iadd hd h
  | isub => exact zs_isub hd h
  | imul => exact zs_imul hd h
  | iand => exact zs_iand hd h
  | ior => exact zs_ior hd h
  | ixor => exact zs_ixor hd h
  | ishl => exact zs_ishl hd h
  | ishr => exact zs_ishr hd h
  | ladd => exact zs_ladd hd h
  | lsub => exact zs_lsub hd h
  | lmul => exact zs_lmul hd h
  | land => exact zs_land hd h
  | lor => exact zs_lor hd h
  | lxor => exact zs_lxor hd h
  | idiv => exact zs_idiv hd h
  | irem => exact zs_irem hd h
  | ldiv => exact zs_ldiv hd h
  | lrem => exact zs_lrem hd h
  | ineg => exact zs_ineg hd h
  | lneg => exact zs_lneg hd h
  | i2l => exact zs_i2l hd h
  | l2i => exact zs_l2i hd h
  | i2b => exact zs_i2b hd h
  | lshl => exact zs_lshl hd h
  | lshr => exact zs_lshr hd h
  | lcmp => exact zs_lcmp hd h
  | iconst n => exact zs_iconst hd h
  | bipush n => exact zs_bipush hd h
  | sipush n => exact zs_sipush hd h
  | lconst n => exact zs_lconst hd h
  | ldc j => exact zs_ldc hd h
  | ldc2_w j => exact zs_ldc2_w hd h
  | iload_n n => exact zs_iload_n hd h
  | istore_n n => exact zs_istore_n hd h
  | iload j => exact zs_iload hd h
  | istore j => exact zs_istore hd h
  | lload_n n => exact zs_lload_n hd h
  | lstore_n n => exact zs_lstore_n hd h
  | lload j => exact zs_lload hd h
  | lstore j => exact zs_lstore hd h
  | aload_n n => exact zs_aload_n hd h
  | astore_n n => exact zs_astore_n hd h
  | aload j => exact zs_aload hd h
  | astore j => exact zs_astore hd h
  | iinc j n => exact zs_iinc hd h
  | dup => exact zs_dup hd h
  | dup2 => exact zs_dup2 hd h
  | ifCond cnd off => exact zs_ifCond hd h
  | if_icmp cnd off => exact zs_if_icmp hd h
  | goto off => exact zs_goto hd h
  | getfield j => exact zs_getfield hd h
  | putfield j => exact zs_putfield hd h
  | iaload => exact zs_iaload hd h
  | baload => exact zs_baload hd h
  | laload => exact zs_laload hd h
  | iastore => exact zs_iastore hd h
  | bastore => exact zs_bastore hd h
  | lastore => exact zs_lastore hd h
  | arraylength => exact zs_arraylength hd h
  | ireturn => exact zs_ireturn hd h
  | lreturn => exact zs_lreturn hd h
  | return_ => exact zs_return_ hd h
  | _ => exact h
end ZSTEP
theorem zwp_mono {M : zM} {Q : zQ} {i : Instr} {len k pc : Nat} {L : zLo} {st : List Value} {D : zD} {leaf : Prop} {K K' : Nat → zLo → List Value → zD → Prop} (hK : ∀ pc L st D, K pc L st D → K' pc L st D) (h : zwp M Q i len k pc L st D leaf K) : zwp M Q i len k pc L st D leaf K' := by
  cases i <;> first
    | exact h
    | exact ⟨h.1, hK _ _ _ _ h.2⟩
    | exact ⟨h.1, h.2.1, hK _ _ _ _ h.2.2⟩
    | (unfold zwp zb2I at h ⊢; dsimp only at h ⊢; refine ⟨h.1, ?_⟩; have h2 := h.2; split at h2 <;> first | exact hK _ _ _ _ h2 | exact h2.elim)
    | (unfold zwp zb2J at h ⊢; dsimp only at h ⊢; refine ⟨h.1, ?_⟩; have h2 := h.2; split at h2 <;> first | exact hK _ _ _ _ h2 | exact h2.elim)
    | (unfold zwp zdI at h ⊢; dsimp only at h ⊢; refine ⟨h.1, ?_⟩; have h2 := h.2; split at h2 <;> first | exact ⟨h2.1, hK _ _ _ _ h2.2⟩ | exact h2.elim)
    | (unfold zwp zdJ at h ⊢; dsimp only at h ⊢; refine ⟨h.1, ?_⟩; have h2 := h.2; split at h2 <;> first | exact ⟨h2.1, hK _ _ _ _ h2.2⟩ | exact h2.elim)
    | (unfold zwp zldI at h ⊢; dsimp only at h ⊢; refine ⟨h.1, ?_⟩; have h2 := h.2; split at h2 <;> first | exact hK _ _ _ _ h2 | exact h2.elim)
    | (unfold zwp zldJ at h ⊢; dsimp only at h ⊢; refine ⟨h.1, ?_⟩; have h2 := h.2; split at h2 <;> first | exact hK _ _ _ _ h2 | exact h2.elim)
    | (unfold zwp zldA at h ⊢; dsimp only at h ⊢; refine ⟨h.1, ?_⟩; have h2 := h.2; split at h2 <;> first | exact hK _ _ _ _ h2 | exact h2.elim)
    | (unfold zwp at h ⊢; dsimp only at h ⊢; refine ⟨h.1, ?_⟩; have h2 := h.2; split at h2 <;> first | exact hK _ _ _ _ h2 | exact ⟨h2.1, hK _ _ _ _ h2.2⟩ | exact ⟨h2.1, h2.2.1, hK _ _ _ _ h2.2.2⟩ | exact h2.elim | exact ⟨h2.1, fun q => hK _ _ _ _ (h2.2.1 q), fun q => hK _ _ _ _ (h2.2.2 q)⟩ | (split at h2 <;> first | exact ⟨h2.1, hK _ _ _ _ h2.2⟩ | exact hK _ _ _ _ h2 | exact ⟨h2.1, h2.2.1, hK _ _ _ _ h2.2.2⟩ | exact h2.elim | (split at h2 <;> first | exact hK _ _ _ _ h2 | exact h2.elim)))
    | (unfold zwp at h ⊢; dsimp only at h ⊢; refine ⟨h.1, h.2.1, ?_⟩; have h2 := h.2.2; split at h2 <;> first | exact hK _ _ _ _ h2 | exact h2.elim)
/-- n instructions on, but for the places where it is cut -/
def zx (M : zM) (Q : zQ) (cut : Nat → Bool) (k : Nat) : Nat → Nat → zLo → List Value → zD → Prop
  | 0, pc, L, st, D => Z M k pc L st D Q
  | n + 1, pc, L, st, D => if cut pc = true then Z M k pc L st D Q else match decode (zcc M) pc with
    | .ok q => zwp M Q q.1 q.2 k pc L st D (Z M k pc L st D Q) (zx M Q cut k n)
    | .error _ => False
theorem zx_ok {M : zM} {Q : zQ} {cut : Nat → Bool} {k : Nat} : ∀ (n pc : Nat) (L : zLo) (st : List Value) (D : zD), zx M Q cut k n pc L st D → Z M k pc L st D Q
  | 0, _, _, _, _, h => h
  | n + 1, pc, L, st, D, h => by
    unfold zx at h
    split at h
    next => exact h
    next =>
      split at h
      next q hd => exact z_step (i := q.1) (len := q.2) hd (zwp_mono (fun pc L st D => zx_ok n pc L st D) h)
      next => exact h.elim
/-- .. its first instruction isn't cut -/
theorem zx_go {M : zM} {Q : zQ} (cut : Nat → Bool) (n : Nat) {k pc len : Nat} {i : Instr} {L : zLo} {st : List Value} {D : zD} (hd : decode (zcc M) pc = .ok (i, len)) (h : zwp M Q i len k pc L st D (Z M k pc L st D Q) (zx M Q cut k n)) : Z M k pc L st D Q := z_step hd (zwp_mono (fun pc L st D => zx_ok n pc L st D) h)
