/-! ===== how long a stream gets; make, of the class ===== -/
theorem wsubs_len {S : zRow} {ch bits : Nat} {pr : zPr} {o first n asg : Nat} (hc : 1 ≤ ch ∧ ch ≤ 8) (hb : 4 ≤ bits ∧ bits ≤ 24) (hn : 1 ≤ n) (hasg : okAsg asg ch) (hS : ∀ j, j < (first + n) * ch → inB bits (S j)) : ∃ z, z ≤ ch * (8 + n * 25) ∧ wlen (wsubs S ch bits pr o first n asg 0 ch) z := by
  refine ⟨_, ?_, wl_len (g := fun c => wsz n (bW bits (rowOfN asg c)) (rwW S ch first (rowOfN asg c)) pr o) ch 0 (fun j _ _ => wsub_len)⟩
  refine nsum_le (B := 8 + n * 25) (fun j _ hj => ?_)
  have h1 := rw_in (w := rowOfN asg j) hb.1 hc.2 (okRow.of hasg (by omega)) hS
  have h2 := bW_le (w := rowOfN asg j) hb
  have h3 := wst_lt h2.1 h1
  have h4 := wsz_le (pr := pr) (o := o) hn (Nat.le_of_lt h3)
  have h5 : n * bW bits (rowOfN asg j) ≤ n * 25 := Nat.mul_le_mul_left _ h2.2
  show wsz _ _ _ _ _ ≤ _
  omega
theorem wframe_len {S : zRow} {ch bits : Nat} {pr : zPr} {o f first n : Nat} {s : WS} (hc : 1 ≤ ch ∧ ch ≤ 8) (hb : 4 ≤ bits ∧ bits ≤ 24) (hn : 1 ≤ n) (hS : ∀ j, j < (first + n) * ch → inB bits (S j)) (h8 : s.1 % 8 = 0) : (wframe S ch bits pr o f first n s).1 % 8 = 0 ∧ s.1 ≤ (wframe S ch bits pr o f first n s).1 ∧ (wframe S ch bits pr o f first n s).1 ≤ s.1 + 87 + ch * (8 + n * 25) ∧ okW (wframe S ch bits pr o f first n s) := by
  have hasg := asgW_ok (S := S) (bits := bits) (pr := pr) (o := o) (first := first) (n := n) hc
  unfold wframe
  obtain ⟨asg, ea⟩ : ∃ asg, asg = asgW S ch bits pr o first n := ⟨_, rfl⟩
  rw [← ea] at hasg ⊢
  obtain ⟨z, hz, hl⟩ := wsubs_len (pr := pr) (o := o) hc hb hn hasg hS
  obtain ⟨s1, e1⟩ : ∃ s1, s1 = whead asg f n s := ⟨_, rfl⟩
  have l1 : s1.1 = s.1 + (40 + if f < 128 then 8 else 16) := by
    rw [e1]
    exact (whead_len asg f n s).1
  rw [← e1]
  have l3 := (hl (wsum 8 (s.1 / 8) s1)).1
  have l2 : (wsum 8 (s.1 / 8) s1).1 = s1.1 + 8 := rfl
  obtain ⟨s3, e3⟩ : ∃ s3, s3 = wsubs S ch bits pr o first n asg 0 ch (wsum 8 (s.1 / 8) s1) := ⟨_, rfl⟩
  rw [← e3] at l3 ⊢
  have l4 : (wfill s3).1 = 8 * ((s3.1 + 7) / 8) := rfl
  have l5 : (wsum 16 (s.1 / 8) (wfill s3)).1 = (wfill s3).1 + 16 := rfl
  have hx : (if f < 128 then 8 else 16) ≤ 16 ∧ (if f < 128 then 8 else 16) % 8 = 0 := by split <;> omega
  exact ⟨by omega, by omega, by omega, (wsum_len1 16 _ _).2⟩
theorem zm_X8_99 : zminw RX8 99 = true := by decide +kernel
def fMk (a k : Nat) : Bool := fAF a k || (a == 5 && k == 2)
/-- what a make leaves told of each frame -/
def toldF (D : zD) (S : zRow) (ch bits block mo : Nat) (pr : zPr) (o F : Nat) : Prop := ∀ f, f < F → D.1 8 f = nI (asgW S ch bits pr o (f * block) (min block (mo - f * block))) ∧ ∀ c, c < ch → wyF D S ch bits pr o (f * block) (min block (mo - f * block)) (f * ch + c) (rowOfN (asgW S ch bits pr o (f * block) (min block (mo - f * block))) c)
noncomputable def wmade (S : zRow) (ch bits block rate mo : Nat) (pr : zPr) (o : Nat) : WS := wall S ch bits block rate mo pr o 0 ((mo + block - 1) / block) (wbegin ch bits block rate mo (0, fun _ => false))
theorem wbegin_len (ch bits block rate mo : Nat) : wlen (wbegin ch bits block rate mo) 336 := (((((((((((((wp_len 32 _).tr (wp_len 1 _)).tr (wp_len 7 _)).tr (wp_len 24 _)).tr (wp_len 16 _)).tr (wp_len 16 _)).tr (wz_len 48)).tr (wp_len 20 _)).tr (wp_len 3 _)).tr (wp_len 5 _)).tr (wp_len 36 _)).tr (wz_len 128))).eq (by omega)
/-- how far frames ahead of f may reach -/
def posB (ch block mo f : Nat) : Nat := 336 + f * 87 + 8 * (f * ch) + 25 * (min (f * block) mo * ch)
theorem posB_s {S : zRow} {ch bits block mo f o : Nat} {pr : zPr} {s : WS} (hc : 1 ≤ ch ∧ ch ≤ 8) (hb : 4 ≤ bits ∧ bits ≤ 24) (hbl : 16 ≤ block ∧ block ≤ 256) (hm : mo * ch ≤ 4096) (hS : ∀ j, j < mo * ch → inB bits (S j)) (hf : f * block < mo) (h8 : s.1 % 8 = 0) (hp : s.1 ≤ posB ch block mo f) :
    f < 256 ∧ f * ch + ch ≤ 264 ∧ (1 ≤ min block (mo - f * block) ∧ min block (mo - f * block) ≤ 256) ∧ (f * block + min block (mo - f * block)) * ch ≤ mo * ch ∧ (wframe S ch bits pr o f (f * block) (min block (mo - f * block)) s).1 % 8 = 0 ∧ s.1 ≤ (wframe S ch bits pr o f (f * block) (min block (mo - f * block)) s).1 ∧ (wframe S ch bits pr o f (f * block) (min block (mo - f * block)) s).1 ≤ posB ch block mo (f + 1) ∧ posB ch block mo (f + 1) ≤ 150000 ∧ okW (wframe S ch bits pr o f (f * block) (min block (mo - f * block)) s) := by
  have hmo : mo ≤ 4096 := Nat.le_trans (Nat.le_mul_of_pos_right _ (by omega)) hm
  have h1 : f * 16 ≤ f * block := Nat.mul_le_mul_left _ hbl.1
  have h2 : f * block * ch ≤ mo * ch := Nat.mul_le_mul_right _ (by omega)
  have h3 : f * ch * 16 ≤ f * block * ch := by
    rw [Nat.mul_right_comm]
    exact Nat.mul_le_mul_right _ h1
  obtain ⟨n, en⟩ : ∃ n, n = min block (mo - f * block) := ⟨_, rfl⟩
  rw [← en]
  have hnb : (1 ≤ n ∧ n ≤ 256) ∧ f * block + n ≤ mo ∧ f * block + n = min ((f + 1) * block) mo ∧ min (f * block) mo = f * block := by
    rw [Nat.succ_mul]
    omega
  obtain ⟨hn, hnm, hmin, hmin0⟩ := hnb
  have h4 : (f * block + n) * ch ≤ mo * ch := Nat.mul_le_mul_right _ hnm
  have h5 := wframe_len (S := S) (pr := pr) (o := o) (f := f) (first := f * block) (n := n) (s := s) hc hb hn.1 (fun j hj => hS j (by omega)) h8
  have h6 : (f * block + n) * ch = f * block * ch + n * ch := Nat.add_mul _ _ _
  have h7 : ch * (8 + n * 25) = 8 * ch + 25 * (n * ch) := by
    rw [Nat.mul_add, Nat.mul_comm ch 8, Nat.mul_comm ch (n * 25), Nat.mul_right_comm, Nat.mul_comm _ 25]
  have h8' : (f + 1) * ch = f * ch + ch := Nat.succ_mul _ _
  have e0 : posB ch block mo f = 336 + f * 87 + 8 * (f * ch) + 25 * (f * block * ch) := by
    unfold posB
    rw [hmin0]
  have e1 : posB ch block mo (f + 1) = 336 + (f + 1) * 87 + 8 * (f * ch + ch) + 25 * (f * block * ch + n * ch) := by
    unfold posB
    rw [← hmin, h8', h6]
  refine ⟨by omega, by omega, hn, h4, h5.1, h5.2.1, ?_, ?_, h5.2.2.2⟩
  · rw [e1]
    rw [e0] at hp
    omega
  · rw [e1]
    omega
theorem c_make8 {d m ch bits block rate o s0 : Nat} {cs : Nat → Int} {D : zD} {Q : zQ} {S : zRow} {st : WS} (hm : D.1 0 3 = nI m) (h0 : D.1 1 0 = nI ch) (h1 : D.1 1 1 = nI bits) (h2 : D.1 1 2 = nI block) (h3 : D.1 1 3 = nI rate) (hc : 1 ≤ ch ∧ ch ≤ 8) (hb : 4 ≤ bits ∧ bits ≤ 24) (hbl : 16 ≤ block ∧ block ≤ 256) (hrt : 1 ≤ rate ∧ rate ≤ 655350) (hm2 : m ≤ 4096) (hS : ∀ j, j < m → D.1 4 j = iI (S j) ∧ inB bits (S j)) (hp : pred8 D 2 3 o s0 cs) (hsh : s0 ≤ 14) (ho : o ≤ 8) (hR : penW D st)
    (hq : ∀ D' mo F, m = mo * ch → F = (mo + block - 1) / block → penW D' (wmade S ch bits block rate mo (s0, cs) o) → (wmade S ch bits block rate mo (s0, cs) o).1 % 8 = 0 → D'.1 5 1 = nI F → F ≤ 256 → D'.1 5 2 = nI ch → toldF D' S ch bits block mo (s0, cs) o F → zfr fMk D D' → Q (.inl (some (.int (nI ((wmade S ch bits block rate mo (s0, cs) o).1 / 8))))) 0 D') (hx : ¬ m % ch = 0 → Q (.inr zISE) 1 D) :
    ZM yX8_make iX8_make (d + 6) [.ref 0] D Q := by
  refine z_method (by decide) rfl (Nat.le_of_ble_eq_true rfl) ?_
  refine z_at [(0, .ref 0)] ⟨rfl, trivial⟩ ?_
  have hch0 : ¬ nI ch = 0 := nI_ne0 hc.1 (by omega)
  refine z_aload_n dX8_make_0 (by exact rfl) ?_
  refine z_gfI zfx_X8_29 (by exact rfl) dX8_make_1 ?_
  refine z_eI (nI m) hm ?_
  refine z_aload_n dX8_make_4 (by exact rfl) ?_
  refine z_gfA zfx_X8_12 (by exact rfl) dX8_make_5 ?_
  refine z_gfI zfx_X8_66 (by exact rfl) dX8_make_8 ?_
  refine z_eI (nI ch) h0 ?_
  refine z_irem dX8_make_11 hch0 ?_
  refine z_eI (nI (m % ch)) (pk_rem (by omega) hc.1 (by omega)) ?_
  refine z_if_eq (tgt := 23) dX8_make_12 (by decide) (fun c12 => ?_) (fun c12 => ?_)
  · have hmod : m % ch = 0 := by
      have : m % ch < ch := Nat.mod_lt _ hc.1
      exact (nI_eq (a := m % ch) (b := 0) (by omega) (by omega)).mp c12
    obtain ⟨mo, emo⟩ : ∃ mo, mo = m / ch := ⟨_, rfl⟩
    have em : m = mo * ch := by
      have := Nat.div_add_mod m ch
      rw [hmod, Nat.add_zero, Nat.mul_comm] at this
      rw [emo]
      exact this.symm
    have hmo : mo ≤ 4096 := Nat.le_trans (Nat.le_mul_of_pos_right _ hc.1) (by omega)
    obtain ⟨F, eF⟩ : ∃ F, F = (mo + block - 1) / block := ⟨_, rfl⟩
    have hq := fun D' => hq D' mo F em eF
    have ewm : wmade S ch bits block rate mo (s0, cs) o = wall S ch bits block rate mo (s0, cs) o 0 F (wbegin ch bits block rate mo (0, fun _ => false)) := by
      rw [eF]
      rfl
    rw [ewm] at hq
    have hF256 : F ≤ 256 := by
      rcases Nat.lt_or_ge 256 F with h | h
      · have := (nf_lt (f := 256) (m := mo) (bl := block) (by omega)).mp (by omega)
        have : 256 * 16 ≤ 256 * block := Nat.mul_le_mul_left _ hbl.1
        omega
      · exact h
    refine z_aload_n dX8_make_23 (by exact rfl) ?_
    refine z_gfI zfx_X8_29 (by exact rfl) dX8_make_24 ?_
    refine z_eI (nI m) hm ?_
    refine z_aload_n dX8_make_27 (by exact rfl) ?_
    refine z_gfA zfx_X8_12 (by exact rfl) dX8_make_28 ?_
    refine z_gfI zfx_X8_66 (by exact rfl) dX8_make_31 ?_
    refine z_eI (nI ch) h0 ?_
    refine z_idiv dX8_make_34 hch0 ?_
    refine z_eI (nI mo) (by rw [emo]; exact pk_div (by omega) hc.1 (by omega)) ?_
    refine z_istore_n dX8_make_35 (Nat.le_of_ble_eq_true rfl) ?_
    refine z_aload_n dX8_make_36 (by exact rfl) ?_
    refine z_gfA zfx_X8_36 (by exact rfl) dX8_make_37 ?_
    refine z_aload_n dX8_make_40 (by exact rfl) ?_
    refine z_gfA zfx_X8_12 (by exact rfl) dX8_make_41 ?_
    refine z_iload_n dX8_make_44 (by exact rfl) ?_
    refine z_cV dX8_make_45 zk_X8_96 (by exact rfl) (by exact rfl) (by exact rfl) (Nat.le_of_ble_eq_true rfl) (Nat.le_of_ble_eq_true rfl) (Nat.le_refl _) ?_
    refine c_begin1 h0 h1 h2 h3 hc hb hbl.2 hrt.2 hmo hR (fun D1 hR1 g1 g2 hf1 => ?_)
    have hfM : ∀ {X Y : zD}, zfr fBg X Y → zfr fMk X Y := fun h => h.wk (fun a k q => by
      unfold fMk fAF at q
      unfold fBg fPen
      simp at q ⊢
      omega)
    have hfA : ∀ {X Y : zD}, zfr fAF X Y → zfr fMk X Y := fun h => h.wk (fun a k q => or_l q)
    have hF1 := hfM hf1
    have hset : ∀ {D2 : zD}, zfr fMk D D2 → (D2.1 1 1 = nI bits ∧ D2.1 1 2 = nI block) ∧ (∀ j, j < m → D2.1 4 j = iI (S j) ∧ inB bits (S j)) ∧ pred8 D2 2 3 o s0 cs := fun hF => ⟨⟨(hF.1 1 1 rfl).trans h1, (hF.1 1 2 rfl).trans h2⟩, fun j hj => ⟨(hF.1 4 j rfl).trans (hS j hj).1, (hS j hj).2⟩, hp.fr hF (fun _ => rfl) (fun _ => rfl)⟩
    have lp : ∀ (j f : Nat) (D2 : zD) (sf : WS), f + j = F → penW D2 sf → sf.1 % 8 = 0 → sf.1 ≤ posB ch block mo f → wall S ch bits block rate mo (s0, cs) o f j sf = wall S ch bits block rate mo (s0, cs) o 0 F (wbegin ch bits block rate mo (0, fun _ => false)) → D2.1 5 1 = nI f → D2.1 5 2 = nI ch → toldF D2 S ch bits block mo (s0, cs) o f → zfr fMk D D2 → Z (zmk iX8_make (d + 6)) 0 50 (zl [(0, .ref 0), (1, .int (nI mo)), (2, .int (nI f))]) [] D2 Q := by
      intro j
      induction j with
      | zero =>
        intro f D2 sf hj hR2 h82 hpos hw k1 k2 ht hF2
        have hj : f = F := by omega
        subst hj
        have hge : ¬ f * block < mo := fun q => by
          have := (nf_lt (f := f) (m := mo) (bl := block) (by omega)).mpr q
          omega
        have hfb : f * block < 2 ^ 21 := by
          have : f * block ≤ 256 * 256 := Nat.mul_le_mul hF256 hbl.2
          omega
        have hw : sf = _ := hw
        rw [← hw] at hq
        have hl := hR2.le
        have fin : Z (zmk iX8_make (d + 6)) 0 122 (zl [(0, .ref 0)]) [] D2 Q := by
          refine z_aload_n dX8_make_122 (by exact rfl) ?_
          refine z_gfA zfx_X8_36 (by exact rfl) dX8_make_123 ?_
          refine z_gfA zfx_X8_109 (by exact rfl) dX8_make_126 ?_
          refine z_cV dX8_make_129 zk_X8_113 (by exact rfl) (by exact rfl) (by exact rfl) (Nat.le_of_ble_eq_true rfl) (Nat.le_of_ble_eq_true rfl) (Nat.le_refl _) ?_
          refine c_size (at0 := sf.1) hR2.hat (by omega) ?_
          refine z_eI (nI (sf.1 / 8)) (by congr 1; omega) ?_
          exact z_iret (st := []) rfl dX8_make_132 (hq D2 hR2 h82 k1 hF256 k2 ht hF2)
        refine z_iload_n dX8_make_50 (by exact rfl) ?_
        refine z_sipush dX8_make_51 ?_
        refine z_icmp_ge (tgt := 122) dX8_make_54 (by decide) (fun c54 => ?_) (fun c54 => ?_)
        · exact z_at [(0, .ref 0)] ⟨rfl, trivial⟩ fin
        · refine z_iload_n dX8_make_57 (by exact rfl) ?_
          refine z_aload_n dX8_make_58 (by exact rfl) ?_
          refine z_gfA zfx_X8_12 (by exact rfl) dX8_make_59 ?_
          refine z_gfI zfx_X8_72 (by exact rfl) dX8_make_62 ?_
          refine z_eI (nI block) (hset hF2).1.2 ?_
          refine z_imul dX8_make_65 ?_
          refine z_eI (nI (f * block)) (pk_mul _ _) ?_
          refine z_iload_n dX8_make_66 (by exact rfl) ?_
          refine z_icmp_ge (tgt := 122) dX8_make_67 (by decide) (fun _ => ?_) (fun q9 => absurd ((nI_le (by omega) (by omega))) q9)
          exact z_at [(0, .ref 0)] ⟨rfl, trivial⟩ fin
      | succ j ih =>
        intro f D2 sf hj hR2 h82 hpos hw k1 k2 ht hF2
        have hlt : f * block < mo := (nf_lt (by omega)).mp (by omega)
        obtain ⟨p1, p2, p3, p4, p5, p6, p7, p8, p9⟩ := posB_s (S := S) (pr := (s0, cs)) (o := o) hc hb hbl (by omega) (fun j hj => (hS j (by omega)).2) hlt h82 hpos
        obtain ⟨n, en⟩ : ∃ n, n = min block (mo - f * block) := ⟨_, rfl⟩
        rw [← en] at p3 p4 p5 p6 p7 p9
        have hw2 : wall S ch bits block rate mo (s0, cs) o (f + 1) j (wframe S ch bits (s0, cs) o f (f * block) n sf) = wall S ch bits block rate mo (s0, cs) o 0 F (wbegin ch bits block rate mo (0, fun _ => false)) := by
          rw [en]
          exact hw
        refine z_iload_n dX8_make_50 (by exact rfl) ?_
        refine z_sipush dX8_make_51 ?_
        refine z_icmp_ge (tgt := 122) dX8_make_54 (by decide) (fun q9 => absurd q9 ((nI_ge (a := f) (b := 256) (by omega) (by omega)))) (fun _ => ?_)
        refine z_iload_n dX8_make_57 (by exact rfl) ?_
        refine z_aload_n dX8_make_58 (by exact rfl) ?_
        refine z_gfA zfx_X8_12 (by exact rfl) dX8_make_59 ?_
        refine z_gfI zfx_X8_72 (by exact rfl) dX8_make_62 ?_
        refine z_eI (nI block) (hset hF2).1.2 ?_
        refine z_imul dX8_make_65 ?_
        refine z_eI (nI (f * block)) (pk_mul _ _) ?_
        refine z_iload_n dX8_make_66 (by exact rfl) ?_
        refine z_icmp_ge (tgt := 122) dX8_make_67 (by decide) (fun q9 => absurd q9 ((nI_ge hlt (by omega)))) (fun _ => ?_)
        refine z_iload_n dX8_make_70 (by exact rfl) ?_
        refine z_aload_n dX8_make_71 (by exact rfl) ?_
        refine z_gfA zfx_X8_12 (by exact rfl) dX8_make_72 ?_
        refine z_gfI zfx_X8_72 (by exact rfl) dX8_make_75 ?_
        refine z_eI (nI block) (hset hF2).1.2 ?_
        refine z_imul dX8_make_78 ?_
        refine z_eI (nI (f * block)) (pk_mul _ _) ?_
        refine z_istore_n dX8_make_79 (Nat.le_of_ble_eq_true rfl) ?_
        refine z_aload_n dX8_make_80 (by exact rfl) ?_
        refine z_gfA zfx_X8_36 (by exact rfl) dX8_make_81 ?_
        refine z_aload_n dX8_make_84 (by exact rfl) ?_
        refine z_gfA zfx_X8_25 (by exact rfl) dX8_make_85 ?_
        refine z_iload_n dX8_make_88 (by exact rfl) ?_
        refine z_aload_n dX8_make_89 (by exact rfl) ?_
        refine z_gfA zfx_X8_12 (by exact rfl) dX8_make_90 ?_
        refine z_gfI zfx_X8_72 (by exact rfl) dX8_make_93 ?_
        refine z_eI (nI block) (hset hF2).1.2 ?_
        refine z_iload_n dX8_make_96 (by exact rfl) ?_
        refine z_iload_n dX8_make_97 (by exact rfl) ?_
        refine z_isub dX8_make_98 ?_
        refine z_eI (nI (mo - f * block)) (pk_sub (by omega)) ?_
        refine z_min dX8_make_99 zm_X8_99 (Nat.le_of_ble_eq_true rfl) (Nat.le_of_ble_eq_true rfl) ?_
        refine z_eI (nI n) (by rw [en]; exact q_min block (mo - f * block) (by omega) (by omega)) ?_
        refine z_aload_n dX8_make_102 (by exact rfl) ?_
        refine z_gfA zfx_X8_12 (by exact rfl) dX8_make_103 ?_
        refine z_gfI zfx_X8_69 (by exact rfl) dX8_make_106 ?_
        refine z_eI (nI bits) (hset hF2).1.1 ?_
        refine z_aload_n dX8_make_109 (by exact rfl) ?_
        refine z_gfA zfx_X8_21 (by exact rfl) dX8_make_110 ?_
        refine z_cV dX8_make_113 zk_X8_105 (by exact rfl) (by exact rfl) (by exact rfl) (Nat.le_of_ble_eq_true rfl) (Nat.le_of_ble_eq_true rfl) (Nat.le_refl _) ?_
        refine c_addFrame (first := f * block) (n := n) (S := S) (st := sf) k1 k2 hc hb p3 p1 p2 (by omega) (fun j hj => (hset hF2).2.1 j (by omega)) (hset hF2).2.2 hsh ho hR2 h82 (by omega) (fun D3 hR3 g5 g8 gw g9 gx hf3 => ?_)
        refine z_iinc dX8_make_116 (by exact rfl) ?_
        refine z_at [(0, .ref 0), (1, .int (nI mo)), (2, .int (nI (f + 1)))] ⟨rfl, rfl, congrArg (fun x => some (Value.int x)) (nI_1 f), trivial⟩ ?_
        refine z_goto (tgt := 50) dX8_make_119 (by decide) ?_
        exact ih (f + 1) D3 _ (by omega) hR3 p5 p7 hw2 g5 ((hf3.1 5 2 rfl).trans k2) (fun f' hf' => by
          obtain e | e : f' = f ∨ f' < f := by omega
          · subst e
            rw [← en]
            exact ⟨g8, gw⟩
          · obtain ⟨t1, t2⟩ := ht f' e
            refine ⟨(gx f' e).trans t1, fun c hc' => (t2 c hc').fr (fun i h1 h2 => g9 i ?_)⟩
            have h7 : (f' + 1) * ch ≤ f * ch := Nat.mul_le_mul_right _ e
            rw [Nat.succ_mul] at h7
            omega) (hF2.tr (hfA hf3))
    refine z_iconst dX8_make_48 ?_
    refine z_istore_n dX8_make_49 (Nat.le_of_ble_eq_true rfl) ?_
    exact z_at [(0, .ref 0), (1, .int (nI mo)), (2, .int (nI 0))] ⟨rfl, rfl, rfl, trivial⟩ (lp F 0 D1 _ (by omega) hR1 (by
      rw [(wbegin_len ch bits block rate mo _).1]
      rfl) (by
      rw [(wbegin_len ch bits block rate mo _).1]
      unfold posB
      show 0 + 336 ≤ _
      omega) rfl g1 g2 (fun f hf => by omega) hF1)
  · exact z_throw (Or.inr rfl) zt_X8_90 dX8_make_15 dX8_make_18 dX8_make_19 dX8_make_22 rfl (Nat.le_of_ble_eq_true rfl) (Nat.le_of_ble_eq_true rfl) (hx (fun q => c12 (by rw [q]; rfl)))
