/-! ===== the law's own small methods: a call of the class, its exceptions caught ===== -/
theorem zt_Lc13 : Cond.classLink RL 13 zIAE ∈ lw_tbl := by decide +kernel
theorem zt_Lc22 : Cond.classLink RL 22 zISE ∈ lw_tbl := by decide +kernel
theorem c_Lshape {d : Nat} {D : zD} {Q : zQ} {c b bl r : Int32} (h1 : okShape c b bl r → Q (.inl (some (.int 0))) 0 (zuI (zuI (zuI (zuI (zuI D 1 0 c) 1 1 b) 1 2 bl) 1 3 r) 0 3 (Int32.ofInt 0))) (h0 : ¬ okShape c b bl r → Q (.inl (some (.int 1))) 1 D) : ZM yL_shape iL_shape (d + 2) [.ref 0, .int c, .int b, .int bl, .int r] D Q := by
  refine z_method (by decide) rfl (Nat.le_of_ble_eq_true rfl) ?_
  refine z_at [(0, .ref 0), (1, .int c), (2, .int b), (3, .int bl), (4, .int r)] ⟨rfl, rfl, rfl, rfl, rfl, trivial⟩ ?_
  refine z_aload_n dL_shape_0 (by exact rfl) ?_
  refine z_iload_n dL_shape_1 (by exact rfl) ?_
  refine z_iload_n dL_shape_2 (by exact rfl) ?_
  refine z_iload_n dL_shape_3 (by exact rfl) ?_
  refine z_iload dL_shape_4 (by exact rfl) ?_
  refine z_cV dL_shape_6 zk_L_7 (by exact rfl) (by exact rfl) (by exact rfl) (Nat.le_of_ble_eq_true rfl) (Nat.le_of_ble_eq_true rfl) (Nat.le_refl _) ?_
  refine c_shape8 (fun h => ?_) (fun h => zx_catch (x := (0, 9, 12, 13)) (hs := []) (Or.inl rfl) rfl (by decide) (by decide) zt_Lc13 (i := 5) (len := 2) (Or.inr ⟨rfl, dL_shape_12⟩) (Nat.le_of_ble_eq_true rfl) ?_)
  · refine z_goto (tgt := 16) dL_shape_9 (by decide) ?_
    refine z_iconst dL_shape_16 ?_
    exact z_iret (st := []) rfl dL_shape_17 (h1 h)
  · refine z_iconst dL_shape_14 ?_
    exact z_iret (st := []) rfl dL_shape_15 (h0 h)
theorem c_Lpredict {d : Nat} {D : zD} {Q : zQ} {x : Int32} (h1 : 0 ≤ x.toInt64 ∧ x.toInt64 ≤ 14 → Q (.inl (some (.int 0))) 0 (zuI (zuI D 2 1 (Int32.ofInt 0)) 2 2 x)) (h0 : ¬ (0 ≤ x.toInt64 ∧ x.toInt64 ≤ 14) → Q (.inl (some (.int 1))) 1 D) : ZM yL_predict iL_predict (d + 2) [.ref 0, .int x] D Q := by
  refine z_method (by decide) rfl (Nat.le_of_ble_eq_true rfl) ?_
  refine z_at [(0, .ref 0), (1, .int x)] ⟨rfl, rfl, trivial⟩ ?_
  refine z_aload_n dL_predict_0 (by exact rfl) ?_
  refine z_iload_n dL_predict_1 (by exact rfl) ?_
  refine z_cV dL_predict_2 zk_L_15 (by exact rfl) (by exact rfl) (by exact rfl) (Nat.le_of_ble_eq_true rfl) (Nat.le_of_ble_eq_true rfl) (Nat.le_refl _) ?_
  refine c_predict8 (fun h => ?_) (fun h => zx_catch (x := (0, 5, 8, 13)) (hs := []) (Or.inl rfl) rfl (by decide) (by decide) zt_Lc13 (i := 2) (len := 1) (Or.inl ⟨2, rfl, rfl, dL_predict_8⟩) (Nat.le_of_ble_eq_true rfl) ?_)
  · refine z_goto (tgt := 11) dL_predict_5 (by decide) ?_
    refine z_iconst dL_predict_11 ?_
    exact z_iret (st := []) rfl dL_predict_12 (h1 h)
  · refine z_iconst dL_predict_9 ?_
    exact z_iret (st := []) rfl dL_predict_10 (h0 h)
theorem c_Lcoefficient {d o : Nat} {D : zD} {Q : zQ} {c : Int32} (ho : D.1 2 1 = nI o) (h : o ≤ 8) (h1 : -zlim 15 ≤ c.toInt64 → c.toInt64 < zlim 15 → o < 8 → Q (.inl (some (.int 0))) 0 (zuI (zuI D 3 o c) 2 1 (nI (o + 1)))) (h2 : -zlim 15 ≤ c.toInt64 → c.toInt64 < zlim 15 → o = 8 → Q (.inl (some (.int 2))) 1 D) (h0 : ¬ (-zlim 15 ≤ c.toInt64 ∧ c.toInt64 < zlim 15) → Q (.inl (some (.int 1))) 1 D) : ZM yL_coefficient iL_coefficient (d + 2) [.ref 0, .int c] D Q := by
  refine z_method (by decide) rfl (Nat.le_of_ble_eq_true rfl) ?_
  refine z_at [(0, .ref 0), (1, .int c)] ⟨rfl, rfl, trivial⟩ ?_
  refine z_aload_n dL_coefficient_0 (by exact rfl) ?_
  refine z_iload_n dL_coefficient_1 (by exact rfl) ?_
  refine z_cV dL_coefficient_2 zk_L_19 (by exact rfl) (by exact rfl) (by exact rfl) (Nat.le_of_ble_eq_true rfl) (Nat.le_of_ble_eq_true rfl) (Nat.le_refl _) ?_
  refine c_coefficient8 ho h (fun a b q => ?_) (fun a b q => zx_catch2 (x := (0, 5, 8, 13)) (z := (0, 5, 11, 22)) (hs := []) rfl (by decide) (by decide) (by decide) (by decide) zt_Lc13 zt_Lc22 (i := 2) (len := 1) (Or.inl ⟨2, rfl, rfl, dL_coefficient_11⟩) (Nat.le_of_ble_eq_true rfl) ?_) (fun q => zx_catch (x := (0, 5, 8, 13)) (hs := [(0, 5, 11, 22)]) (Or.inl rfl) rfl (by decide) (by decide) zt_Lc13 (i := 2) (len := 1) (Or.inl ⟨2, rfl, rfl, dL_coefficient_8⟩) (Nat.le_of_ble_eq_true rfl) ?_)
  · refine z_goto (tgt := 14) dL_coefficient_5 (by decide) ?_
    refine z_iconst dL_coefficient_14 ?_
    exact z_iret (st := []) rfl dL_coefficient_15 (h1 a b q)
  · refine z_iconst dL_coefficient_12 ?_
    exact z_iret (st := []) rfl dL_coefficient_13 (h2 a b q)
  · refine z_iconst dL_coefficient_9 ?_
    exact z_iret (st := []) rfl dL_coefficient_10 (h0 q)
theorem c_Lpush {d n : Nat} {D : zD} {Q : zQ} {v : Int32} (hn : D.1 0 3 = nI n) (h : n ≤ 4096) (h1 : -zlim (D.1 1 1) ≤ v.toInt64 → v.toInt64 < zlim (D.1 1 1) → n < 4096 → Q (.inl (some (.int 0))) 0 (zuI (zuI D 4 n v) 0 3 (nI (n + 1)))) (h2 : -zlim (D.1 1 1) ≤ v.toInt64 → v.toInt64 < zlim (D.1 1 1) → n = 4096 → Q (.inl (some (.int 2))) 1 D) (h0 : ¬ (-zlim (D.1 1 1) ≤ v.toInt64 ∧ v.toInt64 < zlim (D.1 1 1)) → Q (.inl (some (.int 1))) 1 D) : ZM yL_push iL_push (d + 2) [.ref 0, .int v] D Q := by
  refine z_method (by decide) rfl (Nat.le_of_ble_eq_true rfl) ?_
  refine z_at [(0, .ref 0), (1, .int v)] ⟨rfl, rfl, trivial⟩ ?_
  refine z_aload_n dL_push_0 (by exact rfl) ?_
  refine z_iload_n dL_push_1 (by exact rfl) ?_
  refine z_cV dL_push_2 zk_L_24 (by exact rfl) (by exact rfl) (by exact rfl) (Nat.le_of_ble_eq_true rfl) (Nat.le_of_ble_eq_true rfl) (Nat.le_refl _) ?_
  refine c_push8 hn h (fun a b q => ?_) (fun a b q => zx_catch2 (x := (0, 5, 8, 13)) (z := (0, 5, 11, 22)) (hs := []) rfl (by decide) (by decide) (by decide) (by decide) zt_Lc13 zt_Lc22 (i := 2) (len := 1) (Or.inl ⟨2, rfl, rfl, dL_push_11⟩) (Nat.le_of_ble_eq_true rfl) ?_) (fun q => zx_catch (x := (0, 5, 8, 13)) (hs := [(0, 5, 11, 22)]) (Or.inl rfl) rfl (by decide) (by decide) zt_Lc13 (i := 2) (len := 1) (Or.inl ⟨2, rfl, rfl, dL_push_8⟩) (Nat.le_of_ble_eq_true rfl) ?_)
  · refine z_goto (tgt := 14) dL_push_5 (by decide) ?_
    refine z_iconst dL_push_14 ?_
    exact z_iret (st := []) rfl dL_push_15 (h1 a b q)
  · refine z_iconst dL_push_12 ?_
    exact z_iret (st := []) rfl dL_push_13 (h2 a b q)
  · refine z_iconst dL_push_9 ?_
    exact z_iret (st := []) rfl dL_push_10 (h0 q)
theorem c_Lmake {d m ch bits block rate o s0 : Nat} {cs : Nat → Int} {D : zD} {Q : zQ} {S : zRow} {st : WS} (hm : D.1 0 3 = nI m) (h0 : D.1 1 0 = nI ch) (h1 : D.1 1 1 = nI bits) (h2 : D.1 1 2 = nI block) (h3 : D.1 1 3 = nI rate) (hc : 1 ≤ ch ∧ ch ≤ 8) (hb : 4 ≤ bits ∧ bits ≤ 24) (hbl : 16 ≤ block ∧ block ≤ 256) (hrt : 1 ≤ rate ∧ rate ≤ 655350) (hm2 : m ≤ 4096) (hS : ∀ j, j < m → D.1 4 j = iI (S j) ∧ inB bits (S j)) (hp : pred8 D 2 3 o s0 cs) (hsh : s0 ≤ 14) (ho : o ≤ 8) (hR : penW D st)
    (hq : ∀ D' mo F, m = mo * ch → F = (mo + block - 1) / block → penW D' (wmade S ch bits block rate mo (s0, cs) o) → (wmade S ch bits block rate mo (s0, cs) o).1 % 8 = 0 → D'.1 5 1 = nI F → F ≤ 256 → D'.1 5 2 = nI ch → toldF D' S ch bits block mo (s0, cs) o F → zfr fMk D D' → Q (.inl (some (.int 0))) 0 (zuL D' 18 0 (lN ((wmade S ch bits block rate mo (s0, cs) o).1 / 8)))) (hx : ¬ m % ch = 0 → Q (.inl (some (.int 1))) 1 D) :
    ZM yL_make iL_make (d + 7) [.ref 0, .ref 18] D Q := by
  refine z_method (by decide) rfl (Nat.le_of_ble_eq_true rfl) ?_
  refine z_at [(0, .ref 0), (1, .ref 18)] ⟨rfl, rfl, trivial⟩ ?_
  refine z_aload_n dL_make_0 (by exact rfl) ?_
  refine z_iconst dL_make_1 ?_
  refine z_aload_n dL_make_2 (by exact rfl) ?_
  refine z_cV dL_make_3 zk_L_27 (by exact rfl) (by exact rfl) (by exact rfl) (Nat.le_of_ble_eq_true rfl) (Nat.le_of_ble_eq_true rfl) (Nat.le_refl _) ?_
  refine c_make8 hm h0 h1 h2 h3 hc hb hbl hrt hm2 hS hp hsh ho hR (fun D1 mo F e1 e2 e3 e4 e5 e6 e7 e8 e9 => ?_) (fun q => zx_catch (x := (0, 8, 11, 22)) (hs := []) (Or.inr rfl) rfl (by decide) (by decide) zt_Lc22 (i := 2) (len := 1) (Or.inl ⟨2, rfl, rfl, dL_make_11⟩) (Nat.le_of_ble_eq_true rfl) ?_)
  · have hl := e3.le
    refine z_i2l dL_make_6 ?_
    refine z_eJ (lN ((wmade S ch bits block rate mo (s0, cs) o).1 / 8)) (nI_l (by omega)) ?_
    refine z_sJ (by exact rfl) dL_make_7 (vp_in_nI (n := 0) (N := 1) (by omega) (by omega)) ?_
    refine z_goto (tgt := 14) dL_make_8 (by decide) ?_
    refine z_iconst dL_make_14 ?_
    exact z_iret (st := []) rfl dL_make_15 (hq D1 mo F e1 e2 e3 e4 e5 e6 e7 e8 e9)
  · refine z_iconst dL_make_12 ?_
    exact z_iret (st := []) rfl dL_make_13 (hx q)
theorem c_Lread {d sz : Nat} {D : zD} {T : Nat → Bool} {Q : zQ} (hsz : D.1 37 1 = nI sz) (hsz2 : sz ≤ 20000) (hT : ∀ i, i < 8 * sz → bt8 (D.1 38) i = T i)
    (h1 : ∀ D' st S q, sRead T (8 * sz) 0 = .inr ((st, S), q) → okSet st → (D'.1 1 0 = nI st.2.2.1 ∧ D'.1 1 1 = nI st.2.2.2.1 ∧ D'.1 1 2 = nI st.1 ∧ D'.1 1 3 = nI st.2.1) → (∀ j, j < st.2.2.2.2 * st.2.2.1 → D'.1 4 j = iI (S j)) → D'.1 0 3 = nI (st.2.2.2.2 * st.2.2.1) → D'.1 37 1 = 0 → D'.1 37 2 = 0 → D'.1 37 3 = Int32.ofInt (-1) → zfr fRd8 D D' → Q (.inl (some (.int 0))) 0 (zuL D' 18 0 (lN (st.2.2.2.2 * st.2.2.1))))
    (h0 : ∀ D' k pl, sRead T (8 * sz) 0 = .inl (k, pl) → D'.1 37 1 = 0 → bad8 D' k pl → zfr fAcc D D' → Q (.inl (some (.int 1))) 2 D') :
    ZM yL_read iL_read (d + 8) [.ref 0, .ref 18] D Q := by
  refine z_method (by decide) rfl (Nat.le_of_ble_eq_true rfl) ?_
  refine z_at [(0, .ref 0), (1, .ref 18)] ⟨rfl, rfl, trivial⟩ ?_
  refine z_aload_n dL_read_0 (by exact rfl) ?_
  refine z_iconst dL_read_1 ?_
  refine z_aload_n dL_read_2 (by exact rfl) ?_
  refine z_cV dL_read_3 zk_L_35 (by exact rfl) (by exact rfl) (by exact rfl) (Nat.le_of_ble_eq_true rfl) (Nat.le_of_ble_eq_true rfl) (Nat.le_refl _) ?_
  refine c_read8 hsz hsz2 hT (fun D1 st S q e1 e2 e3 e4 e5 e6 e7 e8 e9 => ?_) (fun D1 k pl e1 e2 e3 e4 => zx_catch (x := (0, 8, 11, 13)) (hs := []) (Or.inl rfl) rfl (by decide) (by decide) zt_Lc13 (i := 2) (len := 1) (Or.inl ⟨2, rfl, rfl, dL_read_11⟩) (Nat.le_of_ble_eq_true rfl) ?_)
  · have o5 := e2.2.2.2.2
    refine z_i2l dL_read_6 ?_
    refine z_eJ (lN (st.2.2.2.2 * st.2.2.1)) (nI_l (by omega)) ?_
    refine z_sJ (by exact rfl) dL_read_7 (vp_in_nI (n := 0) (N := 1) (by omega) (by omega)) ?_
    refine z_goto (tgt := 14) dL_read_8 (by decide) ?_
    refine z_iconst dL_read_14 ?_
    exact z_iret (st := []) rfl dL_read_15 (h1 D1 st S q e1 e2 e3 e4 e5 e6 e7 e8 e9)
  · refine z_iconst dL_read_12 ?_
    exact z_iret (st := []) rfl dL_read_13 (h0 D1 k pl e1 e2 e3 e4)
theorem c_Lway {d fr mch : Nat} {D : zD} {Q : zQ} {f c w : Int32} (hfr : D.1 5 1 = nI fr) (hm : D.1 5 2 = nI mch) (h1 : fr ≤ 256) (h2 : mch ≤ 8) (h3 : fr * mch ≤ 264) (h4 : ∀ fj cj wj, f = nI fj → c = nI cj → w = nI wj → fj < fr → cj < mch → wj < 5 → Q (.inl (some (.int 0))) 0 (zuL D 18 0 (way8 D mch fj cj wj).toInt64)) (h0 : ¬ okWay fr mch f c w → Q (.inl (some (.int 1))) 1 D) :
    ZM yL_way iL_way (d + 2) [.ref 0, .int f, .int c, .int w, .ref 18] D Q := by
  refine z_method (by decide) rfl (Nat.le_of_ble_eq_true rfl) ?_
  refine z_at [(0, .ref 0), (1, .int f), (2, .int c), (3, .int w), (4, .ref 18)] ⟨rfl, rfl, rfl, rfl, rfl, trivial⟩ ?_
  refine z_aload dL_way_0 (by exact rfl) ?_
  refine z_iconst dL_way_2 ?_
  refine z_aload_n dL_way_3 (by exact rfl) ?_
  refine z_iload_n dL_way_4 (by exact rfl) ?_
  refine z_iload_n dL_way_5 (by exact rfl) ?_
  refine z_iload_n dL_way_6 (by exact rfl) ?_
  refine z_cV dL_way_7 zk_L_31 (by exact rfl) (by exact rfl) (by exact rfl) (Nat.le_of_ble_eq_true rfl) (Nat.le_of_ble_eq_true rfl) (Nat.le_refl _) ?_
  refine c_way8 hfr hm h1 h2 h3 (fun fj cj wj e1 e2 e3 e4 e5 e6 => ?_) (fun q => zx_catch (x := (0, 12, 15, 13)) (hs := []) (Or.inl rfl) rfl (by decide) (by decide) zt_Lc13 (i := 5) (len := 2) (Or.inr ⟨rfl, dL_way_15⟩) (Nat.le_of_ble_eq_true rfl) ?_)
  · refine z_i2l dL_way_10 ?_
    refine z_sJ (by exact rfl) dL_way_11 (vp_in_nI (n := 0) (N := 1) (by omega) (by omega)) ?_
    refine z_goto (tgt := 19) dL_way_12 (by decide) ?_
    refine z_iconst dL_way_19 ?_
    exact z_iret (st := []) rfl dL_way_20 (h4 fj cj wj e1 e2 e3 e4 e5 e6)
  · refine z_iconst dL_way_17 ?_
    exact z_iret (st := []) rfl dL_way_18 (h0 q)
theorem c_Lsample {d n : Nat} {D : zD} {Q : zQ} {i : Int32} (hn : D.1 0 3 = nI n) (h : n ≤ 4096) (h1 : ∀ j, j < n → i = nI j → Q (.inl (some (.int 0))) 0 (zuL D 18 0 (D.1 4 j).toInt64)) (h0 : (¬ ∃ j, j < n ∧ i = nI j) → Q (.inl (some (.int 1))) 1 D) : ZM yL_sample iL_sample (d + 2) [.ref 0, .int i, .ref 18] D Q := by
  refine z_method (by decide) rfl (Nat.le_of_ble_eq_true rfl) ?_
  refine z_at [(0, .ref 0), (1, .int i), (2, .ref 18)] ⟨rfl, rfl, rfl, trivial⟩ ?_
  refine z_aload_n dL_sample_0 (by exact rfl) ?_
  refine z_iconst dL_sample_1 ?_
  refine z_aload_n dL_sample_2 (by exact rfl) ?_
  refine z_iload_n dL_sample_3 (by exact rfl) ?_
  refine z_cV dL_sample_4 zk_L_38 (by exact rfl) (by exact rfl) (by exact rfl) (Nat.le_of_ble_eq_true rfl) (Nat.le_of_ble_eq_true rfl) (Nat.le_refl _) ?_
  refine c_sample8 hn h (fun j e1 e2 => ?_) (fun q => zx_catch (x := (0, 9, 12, 13)) (hs := []) (Or.inl rfl) rfl (by decide) (by decide) zt_Lc13 (i := 3) (len := 1) (Or.inl ⟨3, rfl, rfl, dL_sample_12⟩) (Nat.le_of_ble_eq_true rfl) ?_)
  · refine z_i2l dL_sample_7 ?_
    refine z_sJ (by exact rfl) dL_sample_8 (vp_in_nI (n := 0) (N := 1) (by omega) (by omega)) ?_
    refine z_goto (tgt := 15) dL_sample_9 (by decide) ?_
    refine z_iconst dL_sample_15 ?_
    exact z_iret (st := []) rfl dL_sample_16 (h1 j e1 e2)
  · refine z_iconst dL_sample_13 ?_
    exact z_iret (st := []) rfl dL_sample_14 (h0 q)
