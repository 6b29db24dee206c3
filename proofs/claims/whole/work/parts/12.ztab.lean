/-! ===== the pool's entries, the shapes: tables ===== -/
def zFT : List (String × Nat × Nat × Nat × Nat × Nat) := [(RX0, 14, 0, 0, 2, 225), (RX0, 23, 0, 1, 2, 226), (RX0, 32, 7, 3, 0, 246), (RX0, 40, 7, 2, 0, 245), (RX0, 47, 7, 1, 0, 243), (RX0, 57, 3, 1, 0, 147), (RX0, 60, 7, 0, 2, 240), (RX0, 71, 5, 7, 1, 206), (RX0, 75, 5, 6, 0, 204), (RX0, 82, 7, 4, 0, 249), (RX0, 99, 3, 2, 0, 151), (RX0, 102, 3, 0, 2, 144), (RX1, 12, 1, 0, 2, 271), (RX1, 18, 1, 1, 0, 273), (RX1, 22, 1, 2, 0, 275), (RX1, 25, 1, 3, 2, 277), (RX1, 29, 1, 4, 2, 278), (RX1, 35, 1, 5, 2, 279), (RX1, 41, 1, 6, 2, 280), (RX1, 46, 6, 0, 0, 114), (RX1, 60, 6, 2, 0, 122), (RX1, 67, 6, 3, 0, 126), (RX1, 70, 6, 1, 0, 118), (RX1, 77, 7, 0, 2, 241), (RX1, 97, 2, 0, 2, 174), (RX1, 125, 7, 6, 1, 255), (RX1, 136, 7, 4, 0, 251), (RX1, 139, 7, 3, 0, 248), (RX1, 142, 7, 5, 0, 253), (RX2, 9, 2, 0, 2, 172), (RX2, 15, 2, 1, 0, 176), (RX3, 7, 3, 0, 2, 143), (RX3, 13, 3, 1, 0, 145), (RX3, 17, 3, 2, 0, 150), (RX4, 9, 4, 0, 2, 308), (RX4, 15, 4, 1, 0, 309), (RX4, 19, 4, 2, 0, 311), (RX4, 22, 4, 3, 0, 313), (RX4, 28, 4, 4, 2, 315), (RX4, 32, 4, 6, 2, 319), (RX4, 38, 4, 9, 2, 323), (RX4, 46, 4, 10, 2, 324), (RX4, 55, 2, 0, 2, 173), (RX4, 64, 4, 7, 0, 321), (RX4, 70, 6, 2, 0, 123), (RX4, 73, 4, 5, 0, 317), (RX4, 92, 4, 8, 0, 322), (RX4, 130, 6, 3, 0, 127), (RX4, 135, 6, 0, 0, 115), (RX4, 138, 6, 1, 0, 119), (RX4, 239, 3, 1, 0, 149), (RX5, 9, 5, 0, 2, 197), (RX5, 15, 5, 3, 2, 200), (RX5, 18, 5, 4, 2, 201), (RX5, 22, 5, 5, 2, 202), (RX5, 25, 5, 1, 0, 198), (RX5, 29, 3, 1, 0, 146), (RX5, 34, 5, 2, 0, 199), (RX5, 63, 5, 7, 1, 205), (RX5, 71, 5, 6, 0, 203), (RX6, 7, 6, 0, 0, 112), (RX6, 13, 6, 1, 0, 116), (RX6, 16, 6, 2, 0, 120), (RX6, 20, 6, 3, 0, 124), (RX7, 9, 7, 0, 2, 239), (RX7, 15, 7, 1, 0, 242), (RX7, 19, 7, 2, 0, 244), (RX7, 22, 7, 3, 0, 247), (RX7, 27, 7, 6, 1, 254), (RX7, 31, 7, 4, 0, 250), (RX7, 34, 7, 5, 0, 252), (RX8, 12, 8, 0, 2, 348), (RX8, 21, 8, 1, 2, 349), (RX8, 25, 8, 2, 2, 350), (RX8, 29, 8, 3, 0, 351), (RX8, 36, 8, 4, 2, 352), (RX8, 43, 8, 5, 2, 353), (RX8, 66, 6, 0, 0, 113), (RX8, 69, 6, 1, 0, 117), (RX8, 72, 6, 2, 0, 121), (RX8, 75, 6, 3, 0, 125), (RX8, 87, 3, 1, 0, 148), (RX8, 109, 1, 0, 2, 272), (RX8, 119, 2, 0, 2, 175), (RX8, 123, 1, 1, 0, 274), (RX8, 126, 1, 2, 0, 276), (RX8, 138, 4, 1, 0, 310), (RX8, 144, 4, 4, 2, 316), (RX8, 151, 4, 5, 0, 318), (RX8, 154, 4, 6, 2, 320), (RX8, 161, 4, 2, 0, 312), (RX8, 164, 4, 3, 0, 314), (RX9, 7, 9, 1, 0, 1126), (RX9, 13, 9, 2, 0, 1127), (RX9, 16, 9, 3, 0, 1128), (RX9, 20, 9, 4, 0, 1129), (RX9, 23, 9, 7, 2, 1132), (RX9, 27, 9, 9, 2, 1134), (RX9, 30, 9, 11, 2, 1136), (RX9, 34, 9, 15, 2, 1140), (RX9, 37, 9, 16, 2, 1141), (RX9, 40, 9, 17, 2, 1142), (RX9, 43, 9, 18, 2, 1143), (RX9, 46, 9, 19, 2, 1144), (RX9, 49, 9, 21, 2, 1146), (RX9, 52, 9, 23, 0, 1148), (RX9, 55, 9, 25, 2, 1150), (RX9, 58, 9, 26, 2, 1151), (RX9, 61, 9, 40, 2, 1165), (RX9, 64, 9, 41, 2, 1166), (RX9, 67, 9, 42, 2, 1167), (RX9, 70, 9, 0, 0, 1125), (RX9, 89, 9, 8, 0, 1133), (RX9, 94, 9, 5, 0, 1130), (RX9, 97, 9, 6, 0, 1131), (RX9, 108, 9, 24, 0, 1149), (RX9, 147, 9, 31, 0, 1156), (RX9, 154, 9, 30, 1, 1155), (RX9, 158, 9, 28, 0, 1153), (RX9, 161, 9, 29, 0, 1154), (RX9, 168, 9, 27, 0, 1152), (RX9, 192, 9, 12, 1, 1137), (RX9, 246, 9, 14, 0, 1139), (RX9, 249, 9, 13, 0, 1138), (RX9, 256, 9, 10, 0, 1135), (RX9, 259, 9, 20, 0, 1145), (RX9, 264, 9, 22, 0, 1147), (RX9, 267, 9, 32, 1, 1157), (RX9, 270, 9, 33, 1, 1158), (RX9, 284, 9, 34, 0, 1159), (RX9, 287, 9, 35, 0, 1160), (RX9, 290, 9, 36, 0, 1161), (RX9, 295, 9, 37, 0, 1162), (RX9, 298, 9, 38, 1, 1163), (RX9, 342, 9, 39, 0, 1164), (RX9, 358, 9, 43, 0, 1168)]
def zfx (own : String) (idx : Nat) : Option (Nat × Nat × Nat) := (zFT.find? (fun q => q.1 == own && q.2.1 == idx)).map (fun q => (q.2.2.1, q.2.2.2.1, q.2.2.2.2.1))
set_option maxRecDepth 100000 in
theorem zFT_ok : zFT.all (fun q => zfchk q.2.2.2.2.2 q.1 q.2.1 q.2.2.1 q.2.2.2.1 q.2.2.2.2.1) = true := by decide +kernel
theorem zfx_ok {own : String} {idx ci f t : Nat} (h : zfx own idx = some (ci, f, t)) : zfk own idx ci f ∧ (t = 0 → zfp own idx ci f .int) ∧ (t = 1 → zfp own idx ci f .long) := by
  unfold zfx at h
  cases hf : zFT.find? (fun q => q.1 == own && q.2.1 == idx) with
  | none => rw [hf] at h; cases h
  | some q =>
    rw [hf] at h
    obtain ⟨o, i, c, n, k, w⟩ := q
    cases h
    have h1 := List.find?_some hf
    simp only [Bool.and_eq_true, beq_iff_eq] at h1
    obtain ⟨rfl, rfl⟩ := h1
    exact zfchk_spec (List.all_eq_true.mp zFT_ok _ (List.mem_of_find?_eq_some hf))
theorem zfx_X0_14 : zfx RX0 14 = some (0, 0, 2) := by decide +kernel
theorem zfx_X0_23 : zfx RX0 23 = some (0, 1, 2) := by decide +kernel
theorem zfx_X0_32 : zfx RX0 32 = some (7, 3, 0) := by decide +kernel
theorem zfx_X0_40 : zfx RX0 40 = some (7, 2, 0) := by decide +kernel
theorem zfx_X0_47 : zfx RX0 47 = some (7, 1, 0) := by decide +kernel
theorem zfx_X0_57 : zfx RX0 57 = some (3, 1, 0) := by decide +kernel
theorem zfx_X0_60 : zfx RX0 60 = some (7, 0, 2) := by decide +kernel
theorem zfx_X0_71 : zfx RX0 71 = some (5, 7, 1) := by decide +kernel
theorem zfx_X0_75 : zfx RX0 75 = some (5, 6, 0) := by decide +kernel
theorem zfx_X0_82 : zfx RX0 82 = some (7, 4, 0) := by decide +kernel
theorem zfx_X0_99 : zfx RX0 99 = some (3, 2, 0) := by decide +kernel
theorem zfx_X0_102 : zfx RX0 102 = some (3, 0, 2) := by decide +kernel
theorem zfx_X1_12 : zfx RX1 12 = some (1, 0, 2) := by decide +kernel
theorem zfx_X1_18 : zfx RX1 18 = some (1, 1, 0) := by decide +kernel
theorem zfx_X1_22 : zfx RX1 22 = some (1, 2, 0) := by decide +kernel
theorem zfx_X1_25 : zfx RX1 25 = some (1, 3, 2) := by decide +kernel
theorem zfx_X1_29 : zfx RX1 29 = some (1, 4, 2) := by decide +kernel
theorem zfx_X1_35 : zfx RX1 35 = some (1, 5, 2) := by decide +kernel
theorem zfx_X1_41 : zfx RX1 41 = some (1, 6, 2) := by decide +kernel
theorem zfx_X1_46 : zfx RX1 46 = some (6, 0, 0) := by decide +kernel
theorem zfx_X1_60 : zfx RX1 60 = some (6, 2, 0) := by decide +kernel
theorem zfx_X1_67 : zfx RX1 67 = some (6, 3, 0) := by decide +kernel
theorem zfx_X1_70 : zfx RX1 70 = some (6, 1, 0) := by decide +kernel
theorem zfx_X1_77 : zfx RX1 77 = some (7, 0, 2) := by decide +kernel
theorem zfx_X1_97 : zfx RX1 97 = some (2, 0, 2) := by decide +kernel
theorem zfx_X1_125 : zfx RX1 125 = some (7, 6, 1) := by decide +kernel
theorem zfx_X1_136 : zfx RX1 136 = some (7, 4, 0) := by decide +kernel
theorem zfx_X1_139 : zfx RX1 139 = some (7, 3, 0) := by decide +kernel
theorem zfx_X1_142 : zfx RX1 142 = some (7, 5, 0) := by decide +kernel
theorem zfx_X2_9 : zfx RX2 9 = some (2, 0, 2) := by decide +kernel
theorem zfx_X2_15 : zfx RX2 15 = some (2, 1, 0) := by decide +kernel
theorem zfx_X3_7 : zfx RX3 7 = some (3, 0, 2) := by decide +kernel
theorem zfx_X3_13 : zfx RX3 13 = some (3, 1, 0) := by decide +kernel
theorem zfx_X3_17 : zfx RX3 17 = some (3, 2, 0) := by decide +kernel
theorem zfx_X4_9 : zfx RX4 9 = some (4, 0, 2) := by decide +kernel
theorem zfx_X4_15 : zfx RX4 15 = some (4, 1, 0) := by decide +kernel
theorem zfx_X4_19 : zfx RX4 19 = some (4, 2, 0) := by decide +kernel
theorem zfx_X4_22 : zfx RX4 22 = some (4, 3, 0) := by decide +kernel
theorem zfx_X4_28 : zfx RX4 28 = some (4, 4, 2) := by decide +kernel
theorem zfx_X4_32 : zfx RX4 32 = some (4, 6, 2) := by decide +kernel
theorem zfx_X4_38 : zfx RX4 38 = some (4, 9, 2) := by decide +kernel
theorem zfx_X4_46 : zfx RX4 46 = some (4, 10, 2) := by decide +kernel
theorem zfx_X4_55 : zfx RX4 55 = some (2, 0, 2) := by decide +kernel
theorem zfx_X4_64 : zfx RX4 64 = some (4, 7, 0) := by decide +kernel
theorem zfx_X4_70 : zfx RX4 70 = some (6, 2, 0) := by decide +kernel
theorem zfx_X4_73 : zfx RX4 73 = some (4, 5, 0) := by decide +kernel
theorem zfx_X4_92 : zfx RX4 92 = some (4, 8, 0) := by decide +kernel
theorem zfx_X4_130 : zfx RX4 130 = some (6, 3, 0) := by decide +kernel
theorem zfx_X4_135 : zfx RX4 135 = some (6, 0, 0) := by decide +kernel
theorem zfx_X4_138 : zfx RX4 138 = some (6, 1, 0) := by decide +kernel
theorem zfx_X4_239 : zfx RX4 239 = some (3, 1, 0) := by decide +kernel
theorem zfx_X5_9 : zfx RX5 9 = some (5, 0, 2) := by decide +kernel
theorem zfx_X5_15 : zfx RX5 15 = some (5, 3, 2) := by decide +kernel
theorem zfx_X5_18 : zfx RX5 18 = some (5, 4, 2) := by decide +kernel
theorem zfx_X5_22 : zfx RX5 22 = some (5, 5, 2) := by decide +kernel
theorem zfx_X5_25 : zfx RX5 25 = some (5, 1, 0) := by decide +kernel
theorem zfx_X5_29 : zfx RX5 29 = some (3, 1, 0) := by decide +kernel
theorem zfx_X5_34 : zfx RX5 34 = some (5, 2, 0) := by decide +kernel
theorem zfx_X5_63 : zfx RX5 63 = some (5, 7, 1) := by decide +kernel
theorem zfx_X5_71 : zfx RX5 71 = some (5, 6, 0) := by decide +kernel
theorem zfx_X6_7 : zfx RX6 7 = some (6, 0, 0) := by decide +kernel
theorem zfx_X6_13 : zfx RX6 13 = some (6, 1, 0) := by decide +kernel
theorem zfx_X6_16 : zfx RX6 16 = some (6, 2, 0) := by decide +kernel
theorem zfx_X6_20 : zfx RX6 20 = some (6, 3, 0) := by decide +kernel
theorem zfx_X7_9 : zfx RX7 9 = some (7, 0, 2) := by decide +kernel
theorem zfx_X7_15 : zfx RX7 15 = some (7, 1, 0) := by decide +kernel
theorem zfx_X7_19 : zfx RX7 19 = some (7, 2, 0) := by decide +kernel
theorem zfx_X7_22 : zfx RX7 22 = some (7, 3, 0) := by decide +kernel
theorem zfx_X7_27 : zfx RX7 27 = some (7, 6, 1) := by decide +kernel
theorem zfx_X7_31 : zfx RX7 31 = some (7, 4, 0) := by decide +kernel
theorem zfx_X7_34 : zfx RX7 34 = some (7, 5, 0) := by decide +kernel
theorem zfx_X8_12 : zfx RX8 12 = some (8, 0, 2) := by decide +kernel
theorem zfx_X8_21 : zfx RX8 21 = some (8, 1, 2) := by decide +kernel
theorem zfx_X8_25 : zfx RX8 25 = some (8, 2, 2) := by decide +kernel
theorem zfx_X8_29 : zfx RX8 29 = some (8, 3, 0) := by decide +kernel
theorem zfx_X8_36 : zfx RX8 36 = some (8, 4, 2) := by decide +kernel
theorem zfx_X8_43 : zfx RX8 43 = some (8, 5, 2) := by decide +kernel
theorem zfx_X8_66 : zfx RX8 66 = some (6, 0, 0) := by decide +kernel
theorem zfx_X8_69 : zfx RX8 69 = some (6, 1, 0) := by decide +kernel
theorem zfx_X8_72 : zfx RX8 72 = some (6, 2, 0) := by decide +kernel
theorem zfx_X8_75 : zfx RX8 75 = some (6, 3, 0) := by decide +kernel
theorem zfx_X8_87 : zfx RX8 87 = some (3, 1, 0) := by decide +kernel
theorem zfx_X8_109 : zfx RX8 109 = some (1, 0, 2) := by decide +kernel
theorem zfx_X8_119 : zfx RX8 119 = some (2, 0, 2) := by decide +kernel
theorem zfx_X8_123 : zfx RX8 123 = some (1, 1, 0) := by decide +kernel
theorem zfx_X8_126 : zfx RX8 126 = some (1, 2, 0) := by decide +kernel
theorem zfx_X8_138 : zfx RX8 138 = some (4, 1, 0) := by decide +kernel
theorem zfx_X8_144 : zfx RX8 144 = some (4, 4, 2) := by decide +kernel
theorem zfx_X8_151 : zfx RX8 151 = some (4, 5, 0) := by decide +kernel
theorem zfx_X8_154 : zfx RX8 154 = some (4, 6, 2) := by decide +kernel
theorem zfx_X8_161 : zfx RX8 161 = some (4, 2, 0) := by decide +kernel
theorem zfx_X8_164 : zfx RX8 164 = some (4, 3, 0) := by decide +kernel
theorem zfx_X9_7 : zfx RX9 7 = some (9, 1, 0) := by decide +kernel
theorem zfx_X9_13 : zfx RX9 13 = some (9, 2, 0) := by decide +kernel
theorem zfx_X9_16 : zfx RX9 16 = some (9, 3, 0) := by decide +kernel
theorem zfx_X9_20 : zfx RX9 20 = some (9, 4, 0) := by decide +kernel
theorem zfx_X9_23 : zfx RX9 23 = some (9, 7, 2) := by decide +kernel
theorem zfx_X9_27 : zfx RX9 27 = some (9, 9, 2) := by decide +kernel
theorem zfx_X9_30 : zfx RX9 30 = some (9, 11, 2) := by decide +kernel
theorem zfx_X9_34 : zfx RX9 34 = some (9, 15, 2) := by decide +kernel
theorem zfx_X9_37 : zfx RX9 37 = some (9, 16, 2) := by decide +kernel
theorem zfx_X9_40 : zfx RX9 40 = some (9, 17, 2) := by decide +kernel
theorem zfx_X9_43 : zfx RX9 43 = some (9, 18, 2) := by decide +kernel
theorem zfx_X9_46 : zfx RX9 46 = some (9, 19, 2) := by decide +kernel
theorem zfx_X9_49 : zfx RX9 49 = some (9, 21, 2) := by decide +kernel
theorem zfx_X9_52 : zfx RX9 52 = some (9, 23, 0) := by decide +kernel
theorem zfx_X9_55 : zfx RX9 55 = some (9, 25, 2) := by decide +kernel
theorem zfx_X9_58 : zfx RX9 58 = some (9, 26, 2) := by decide +kernel
theorem zfx_X9_61 : zfx RX9 61 = some (9, 40, 2) := by decide +kernel
theorem zfx_X9_64 : zfx RX9 64 = some (9, 41, 2) := by decide +kernel
theorem zfx_X9_67 : zfx RX9 67 = some (9, 42, 2) := by decide +kernel
theorem zfx_X9_70 : zfx RX9 70 = some (9, 0, 0) := by decide +kernel
theorem zfx_X9_89 : zfx RX9 89 = some (9, 8, 0) := by decide +kernel
theorem zfx_X9_94 : zfx RX9 94 = some (9, 5, 0) := by decide +kernel
theorem zfx_X9_97 : zfx RX9 97 = some (9, 6, 0) := by decide +kernel
theorem zfx_X9_108 : zfx RX9 108 = some (9, 24, 0) := by decide +kernel
theorem zfx_X9_147 : zfx RX9 147 = some (9, 31, 0) := by decide +kernel
theorem zfx_X9_154 : zfx RX9 154 = some (9, 30, 1) := by decide +kernel
theorem zfx_X9_158 : zfx RX9 158 = some (9, 28, 0) := by decide +kernel
theorem zfx_X9_161 : zfx RX9 161 = some (9, 29, 0) := by decide +kernel
theorem zfx_X9_168 : zfx RX9 168 = some (9, 27, 0) := by decide +kernel
theorem zfx_X9_192 : zfx RX9 192 = some (9, 12, 1) := by decide +kernel
theorem zfx_X9_246 : zfx RX9 246 = some (9, 14, 0) := by decide +kernel
theorem zfx_X9_249 : zfx RX9 249 = some (9, 13, 0) := by decide +kernel
theorem zfx_X9_256 : zfx RX9 256 = some (9, 10, 0) := by decide +kernel
theorem zfx_X9_259 : zfx RX9 259 = some (9, 20, 0) := by decide +kernel
theorem zfx_X9_264 : zfx RX9 264 = some (9, 22, 0) := by decide +kernel
theorem zfx_X9_267 : zfx RX9 267 = some (9, 32, 1) := by decide +kernel
theorem zfx_X9_270 : zfx RX9 270 = some (9, 33, 1) := by decide +kernel
theorem zfx_X9_284 : zfx RX9 284 = some (9, 34, 0) := by decide +kernel
theorem zfx_X9_287 : zfx RX9 287 = some (9, 35, 0) := by decide +kernel
theorem zfx_X9_290 : zfx RX9 290 = some (9, 36, 0) := by decide +kernel
theorem zfx_X9_295 : zfx RX9 295 = some (9, 37, 0) := by decide +kernel
theorem zfx_X9_298 : zfx RX9 298 = some (9, 38, 1) := by decide +kernel
theorem zfx_X9_342 : zfx RX9 342 = some (9, 39, 0) := by decide +kernel
theorem zfx_X9_358 : zfx RX9 358 = some (9, 43, 0) := by decide +kernel
def zCI : List (String × Nat × Int32 × Nat) := [(RX1, 120, 32773, 958), (RX2, 29, 160000, 814), (RX4, 162, 32773, 1093), (RX6, 19, 44100, 111), (RX9, 19, 44100, 1124), (RX9, 197, 32768, 1391), (RX9, 202, 32773, 1395)]
def zCL : List (String × Nat × Int64 × Nat) := [(RL, 77, 4294967295, 1526), (RX0, 97, 14, 939), (RX1, 52, 1716281667, 809), (RX1, 58, 34, 816), (RX1, 132, 16382, 923), (RX1, 134, 6, 924), (RX4, 102, 1716281667, 986), (RX4, 108, 34, 1001), (RX4, 113, 126, 1021), (RX4, 126, 16, 1006), (RX4, 128, 256, 1007), (RX4, 133, 655350, 1017), (RX4, 141, 4, 1018), (RX4, 143, 24, 1019), (RX4, 145, 4096, 1020), (RX4, 173, 16382, 1030), (RX4, 175, 6, 1031), (RX4, 177, 8, 1032), (RX4, 179, 10, 1033), (RX4, 184, 127, 1038), (RX4, 186, 192, 1039), (RX4, 188, 223, 1040), (RX4, 190, 128, 1041), (RX4, 192, 191, 1042), (RX4, 224, 12, 1056), (RX4, 226, 32, 1057), (RX4, 228, 63, 1058), (RX5, 41, -2147483647, 871), (RX5, 43, 2147483647, 872), (RX5, 49, 2, 874), (RX5, 51, -2, 875), (RX5, 61, 9223372036854775807, 892), (RX5, 93, 6, 897), (RX5, 95, 4, 898), (RX7, 25, 9223372036854775807, 830), (RX8, 47, 8, 382), (RX8, 53, 4, 419), (RX8, 55, 24, 420), (RX8, 57, 16, 421), (RX8, 59, 256, 422), (RX8, 61, 655350, 423), (RX8, 78, 14, 494), (RX9, 73, 8, 1266), (RX9, 79, 4, 1270), (RX9, 81, 24, 1271), (RX9, 83, 16, 1272), (RX9, 85, 256, 1273), (RX9, 87, 655350, 1274), (RX9, 92, 14, 1279), (RX9, 100, -16384, 1284), (RX9, 102, 16383, 1285), (RX9, 111, 2, 1356), (RX9, 113, 3, 1357), (RX9, 115, 6, 1358), (RX9, 129, -2147483647, 1359), (RX9, 131, 2147483647, 1360), (RX9, 133, -2, 1380), (RX9, 171, -1, 1332), (RX9, 188, 9, 1381), (RX9, 190, 15, 1382), (RX9, 195, 64, 1302), (RX9, 227, 16382, 1383), (RX9, 242, 1716281667, 1297), (RX9, 244, 34, 1303), (RX9, 262, 255, 1419), (RX9, 293, 23, 1444), (RX9, 301, 4096, 1445), (RX9, 303, 128, 1446), (RX9, 309, 126, 1451), (RX9, 311, 127, 1469), (RX9, 313, 192, 1470), (RX9, 315, 223, 1471), (RX9, 317, 191, 1472), (RX9, 323, 10, 1460), (RX9, 345, 12, 1481)]
def zcix (own : String) (idx : Nat) : Option Int32 := (zCI.find? (fun q => q.1 == own && q.2.1 == idx)).map (·.2.2.1)
def zclx (own : String) (idx : Nat) : Option Int64 := (zCL.find? (fun q => q.1 == own && q.2.1 == idx)).map (·.2.2.1)
set_option maxRecDepth 100000 in
theorem zCI_ok : zCI.all (fun q => lwi q.2.2.2 (Cond.constant q.1 q.2.1 q.2.2.1)) = true := by decide +kernel
set_option maxRecDepth 100000 in
theorem zCL_ok : zCL.all (fun q => lwi q.2.2.2 (Cond.constantLong q.1 q.2.1 q.2.2.1)) = true := by decide +kernel
theorem zcix_ok {own : String} {idx : Nat} {v : Int32} (h : zcix own idx = some v) : Cond.constant own idx v ∈ lw_tbl := by
  unfold zcix at h
  cases hf : zCI.find? (fun q => q.1 == own && q.2.1 == idx) with
  | none => rw [hf] at h; cases h
  | some q =>
    rw [hf] at h
    obtain ⟨o, i, w, j⟩ := q
    cases h
    have h1 := List.find?_some hf
    simp only [Bool.and_eq_true, beq_iff_eq] at h1
    obtain ⟨rfl, rfl⟩ := h1
    exact lwi_mem (List.all_eq_true.mp zCI_ok _ (List.mem_of_find?_eq_some hf))
theorem zclx_ok {own : String} {idx : Nat} {v : Int64} (h : zclx own idx = some v) : Cond.constantLong own idx v ∈ lw_tbl := by
  unfold zclx at h
  cases hf : zCL.find? (fun q => q.1 == own && q.2.1 == idx) with
  | none => rw [hf] at h; cases h
  | some q =>
    rw [hf] at h
    obtain ⟨o, i, w, j⟩ := q
    cases h
    have h1 := List.find?_some hf
    simp only [Bool.and_eq_true, beq_iff_eq] at h1
    obtain ⟨rfl, rfl⟩ := h1
    exact lwi_mem (List.all_eq_true.mp zCL_ok _ (List.mem_of_find?_eq_some hf))
theorem zcix_X1_120 : zcix RX1 120 = some (32773) := by decide +kernel
theorem zcix_X2_29 : zcix RX2 29 = some (160000) := by decide +kernel
theorem zcix_X4_162 : zcix RX4 162 = some (32773) := by decide +kernel
theorem zcix_X6_19 : zcix RX6 19 = some (44100) := by decide +kernel
theorem zcix_X9_19 : zcix RX9 19 = some (44100) := by decide +kernel
theorem zcix_X9_197 : zcix RX9 197 = some (32768) := by decide +kernel
theorem zcix_X9_202 : zcix RX9 202 = some (32773) := by decide +kernel
theorem zclx_L_77 : zclx RL 77 = some (4294967295) := by decide +kernel
theorem zclx_X0_97 : zclx RX0 97 = some (14) := by decide +kernel
theorem zclx_X1_52 : zclx RX1 52 = some (1716281667) := by decide +kernel
theorem zclx_X1_58 : zclx RX1 58 = some (34) := by decide +kernel
theorem zclx_X1_132 : zclx RX1 132 = some (16382) := by decide +kernel
theorem zclx_X1_134 : zclx RX1 134 = some (6) := by decide +kernel
theorem zclx_X4_102 : zclx RX4 102 = some (1716281667) := by decide +kernel
theorem zclx_X4_108 : zclx RX4 108 = some (34) := by decide +kernel
theorem zclx_X4_113 : zclx RX4 113 = some (126) := by decide +kernel
theorem zclx_X4_126 : zclx RX4 126 = some (16) := by decide +kernel
theorem zclx_X4_128 : zclx RX4 128 = some (256) := by decide +kernel
theorem zclx_X4_133 : zclx RX4 133 = some (655350) := by decide +kernel
theorem zclx_X4_141 : zclx RX4 141 = some (4) := by decide +kernel
theorem zclx_X4_143 : zclx RX4 143 = some (24) := by decide +kernel
theorem zclx_X4_145 : zclx RX4 145 = some (4096) := by decide +kernel
theorem zclx_X4_173 : zclx RX4 173 = some (16382) := by decide +kernel
theorem zclx_X4_175 : zclx RX4 175 = some (6) := by decide +kernel
theorem zclx_X4_177 : zclx RX4 177 = some (8) := by decide +kernel
theorem zclx_X4_179 : zclx RX4 179 = some (10) := by decide +kernel
theorem zclx_X4_184 : zclx RX4 184 = some (127) := by decide +kernel
theorem zclx_X4_186 : zclx RX4 186 = some (192) := by decide +kernel
theorem zclx_X4_188 : zclx RX4 188 = some (223) := by decide +kernel
theorem zclx_X4_190 : zclx RX4 190 = some (128) := by decide +kernel
theorem zclx_X4_192 : zclx RX4 192 = some (191) := by decide +kernel
theorem zclx_X4_224 : zclx RX4 224 = some (12) := by decide +kernel
theorem zclx_X4_226 : zclx RX4 226 = some (32) := by decide +kernel
theorem zclx_X4_228 : zclx RX4 228 = some (63) := by decide +kernel
theorem zclx_X5_41 : zclx RX5 41 = some (-2147483647) := by decide +kernel
theorem zclx_X5_43 : zclx RX5 43 = some (2147483647) := by decide +kernel
theorem zclx_X5_49 : zclx RX5 49 = some (2) := by decide +kernel
theorem zclx_X5_51 : zclx RX5 51 = some (-2) := by decide +kernel
theorem zclx_X5_61 : zclx RX5 61 = some (9223372036854775807) := by decide +kernel
theorem zclx_X5_93 : zclx RX5 93 = some (6) := by decide +kernel
theorem zclx_X5_95 : zclx RX5 95 = some (4) := by decide +kernel
theorem zclx_X7_25 : zclx RX7 25 = some (9223372036854775807) := by decide +kernel
theorem zclx_X8_47 : zclx RX8 47 = some (8) := by decide +kernel
theorem zclx_X8_53 : zclx RX8 53 = some (4) := by decide +kernel
theorem zclx_X8_55 : zclx RX8 55 = some (24) := by decide +kernel
theorem zclx_X8_57 : zclx RX8 57 = some (16) := by decide +kernel
theorem zclx_X8_59 : zclx RX8 59 = some (256) := by decide +kernel
theorem zclx_X8_61 : zclx RX8 61 = some (655350) := by decide +kernel
theorem zclx_X8_78 : zclx RX8 78 = some (14) := by decide +kernel
theorem zclx_X9_73 : zclx RX9 73 = some (8) := by decide +kernel
theorem zclx_X9_79 : zclx RX9 79 = some (4) := by decide +kernel
theorem zclx_X9_81 : zclx RX9 81 = some (24) := by decide +kernel
theorem zclx_X9_83 : zclx RX9 83 = some (16) := by decide +kernel
theorem zclx_X9_85 : zclx RX9 85 = some (256) := by decide +kernel
theorem zclx_X9_87 : zclx RX9 87 = some (655350) := by decide +kernel
theorem zclx_X9_92 : zclx RX9 92 = some (14) := by decide +kernel
theorem zclx_X9_100 : zclx RX9 100 = some (-16384) := by decide +kernel
theorem zclx_X9_102 : zclx RX9 102 = some (16383) := by decide +kernel
theorem zclx_X9_111 : zclx RX9 111 = some (2) := by decide +kernel
theorem zclx_X9_113 : zclx RX9 113 = some (3) := by decide +kernel
theorem zclx_X9_115 : zclx RX9 115 = some (6) := by decide +kernel
theorem zclx_X9_129 : zclx RX9 129 = some (-2147483647) := by decide +kernel
theorem zclx_X9_131 : zclx RX9 131 = some (2147483647) := by decide +kernel
theorem zclx_X9_133 : zclx RX9 133 = some (-2) := by decide +kernel
theorem zclx_X9_171 : zclx RX9 171 = some (-1) := by decide +kernel
theorem zclx_X9_188 : zclx RX9 188 = some (9) := by decide +kernel
theorem zclx_X9_190 : zclx RX9 190 = some (15) := by decide +kernel
theorem zclx_X9_195 : zclx RX9 195 = some (64) := by decide +kernel
theorem zclx_X9_227 : zclx RX9 227 = some (16382) := by decide +kernel
theorem zclx_X9_242 : zclx RX9 242 = some (1716281667) := by decide +kernel
theorem zclx_X9_244 : zclx RX9 244 = some (34) := by decide +kernel
theorem zclx_X9_262 : zclx RX9 262 = some (255) := by decide +kernel
theorem zclx_X9_293 : zclx RX9 293 = some (23) := by decide +kernel
theorem zclx_X9_301 : zclx RX9 301 = some (4096) := by decide +kernel
theorem zclx_X9_303 : zclx RX9 303 = some (128) := by decide +kernel
theorem zclx_X9_309 : zclx RX9 309 = some (126) := by decide +kernel
theorem zclx_X9_311 : zclx RX9 311 = some (127) := by decide +kernel
theorem zclx_X9_313 : zclx RX9 313 = some (192) := by decide +kernel
theorem zclx_X9_315 : zclx RX9 315 = some (223) := by decide +kernel
theorem zclx_X9_317 : zclx RX9 317 = some (191) := by decide +kernel
theorem zclx_X9_323 : zclx RX9 323 = some (10) := by decide +kernel
theorem zclx_X9_345 : zclx RX9 345 = some (12) := by decide +kernel
/-- what field f of cell a, an object of this class, is -/
def zfc (a ci f : Nat) : Option Nat := match zSH[a]? with
  | some (5, c, fl) => if c = ci then fl[f]? else none
  | _ => none
/-- the kind and the length of the array that cell a is -/
def zac (a : Nat) : Option (Nat × Nat) := match zSH[a]? with
  | some (5, _, _) => none
  | some (t, n, _) => some (t, n)
  | none => none
theorem zfc_ok {a ci f c : Nat} (h : zfc a ci f = some c) : ∃ fl, zSH[a]? = some (5, ci, fl) ∧ fl[f]? = some c := by
  unfold zfc at h
  split at h
  next c' fl h1 =>
    split at h
    next h2 => subst h2; exact ⟨fl, h1, h⟩
    next => cases h
  next => cases h
theorem zac_ok {a t n : Nat} (h : zac a = some (t, n)) : ∃ r, zSH[a]? = some (t, n, r) := by
  unfold zac at h
  split at h
  next => cases h
  next t' n' r _ h1 => cases h; exact ⟨r, h1⟩
  next => cases h
theorem zfc_0_0 : zfc 0 8 0 = some 3 := by decide +kernel
theorem zfc_0_1 : zfc 0 8 1 = some 4 := by decide +kernel
theorem zfc_0_2 : zfc 0 8 2 = some 6 := by decide +kernel
theorem zfc_0_3 : zfc 0 8 3 = some 0 := by decide +kernel
theorem zfc_0_4 : zfc 0 8 4 = some 7 := by decide +kernel
theorem zfc_0_5 : zfc 0 8 5 = some 39 := by decide +kernel
theorem zfc_1_0 : zfc 1 6 0 = some 0 := by decide +kernel
theorem zfc_1_1 : zfc 1 6 1 = some 0 := by decide +kernel
theorem zfc_1_2 : zfc 1 6 2 = some 0 := by decide +kernel
theorem zfc_1_3 : zfc 1 6 3 = some 0 := by decide +kernel
theorem zfc_2_0 : zfc 2 3 0 = some 5 := by decide +kernel
theorem zfc_2_1 : zfc 2 3 1 = some 0 := by decide +kernel
theorem zfc_2_2 : zfc 2 3 2 = some 0 := by decide +kernel
theorem zac_3 : zac 3 = some (0, 8) := by decide +kernel
theorem zac_4 : zac 4 = some (0, 4096) := by decide +kernel
theorem zfc_5_0 : zfc 5 1 0 = some 8 := by decide +kernel
theorem zfc_5_1 : zfc 5 1 1 = some 0 := by decide +kernel
theorem zfc_5_2 : zfc 5 1 2 = some 0 := by decide +kernel
theorem zfc_5_3 : zfc 5 1 3 = some 10 := by decide +kernel
theorem zfc_5_4 : zfc 5 1 4 = some 11 := by decide +kernel
theorem zfc_5_5 : zfc 5 1 5 = some 12 := by decide +kernel
theorem zfc_5_6 : zfc 5 1 6 = some 22 := by decide +kernel
theorem zfc_6_0 : zfc 6 2 0 = some 9 := by decide +kernel
theorem zfc_6_1 : zfc 6 2 1 = some 0 := by decide +kernel
theorem zac_7 : zac 7 = some (2, 20000) := by decide +kernel
theorem zac_8 : zac 8 = some (0, 256) := by decide +kernel
theorem zac_9 : zac 9 = some (0, 1056) := by decide +kernel
theorem zfc_10_0 : zfc 10 0 0 = some 13 := by decide +kernel
theorem zfc_10_1 : zfc 10 0 1 = some 15 := by decide +kernel
theorem zfc_11_0 : zfc 11 3 0 = some 14 := by decide +kernel
theorem zfc_11_1 : zfc 11 3 1 = some 0 := by decide +kernel
theorem zfc_11_2 : zfc 11 3 2 = some 0 := by decide +kernel
theorem zac_12 : zac 12 = some (0, 4) := by decide +kernel
theorem zfc_13_0 : zfc 13 5 0 = some 16 := by decide +kernel
theorem zfc_13_1 : zfc 13 5 1 = some 0 := by decide +kernel
theorem zfc_13_2 : zfc 13 5 2 = some 0 := by decide +kernel
theorem zfc_13_3 : zfc 13 5 3 = some 17 := by decide +kernel
theorem zfc_13_4 : zfc 13 5 4 = some 18 := by decide +kernel
theorem zfc_13_5 : zfc 13 5 5 = some 19 := by decide +kernel
theorem zfc_13_6 : zfc 13 5 6 = some 0 := by decide +kernel
theorem zfc_13_7 : zfc 13 5 7 = some 1 := by decide +kernel
theorem zac_14 : zac 14 = some (1, 256) := by decide +kernel
theorem zac_15 : zac 15 = some (1, 120) := by decide +kernel
theorem zac_16 : zac 16 = some (0, 8) := by decide +kernel
theorem zac_17 : zac 17 = some (0, 8) := by decide +kernel
theorem zac_18 : zac 18 = some (1, 1) := by decide +kernel
theorem zfc_19_0 : zfc 19 9 0 = some 0 := by decide +kernel
theorem zfc_19_1 : zfc 19 9 1 = some 0 := by decide +kernel
theorem zfc_19_2 : zfc 19 9 2 = some 0 := by decide +kernel
theorem zfc_19_3 : zfc 19 9 3 = some 0 := by decide +kernel
theorem zfc_19_4 : zfc 19 9 4 = some 0 := by decide +kernel
theorem zfc_19_5 : zfc 19 9 5 = some 0 := by decide +kernel
theorem zfc_19_6 : zfc 19 9 6 = some 0 := by decide +kernel
theorem zfc_19_7 : zfc 19 9 7 = some 54 := by decide +kernel
theorem zfc_19_8 : zfc 19 9 8 = some 0 := by decide +kernel
theorem zfc_19_9 : zfc 19 9 9 = some 55 := by decide +kernel
theorem zfc_19_10 : zfc 19 9 10 = some 0 := by decide +kernel
theorem zfc_19_11 : zfc 19 9 11 = some 56 := by decide +kernel
theorem zfc_19_12 : zfc 19 9 12 = some 1 := by decide +kernel
theorem zfc_19_13 : zfc 19 9 13 = some 0 := by decide +kernel
theorem zfc_19_14 : zfc 19 9 14 = some 0 := by decide +kernel
theorem zfc_19_15 : zfc 19 9 15 = some 57 := by decide +kernel
theorem zfc_19_16 : zfc 19 9 16 = some 58 := by decide +kernel
theorem zfc_19_17 : zfc 19 9 17 = some 59 := by decide +kernel
theorem zfc_19_18 : zfc 19 9 18 = some 60 := by decide +kernel
theorem zfc_19_19 : zfc 19 9 19 = some 61 := by decide +kernel
theorem zfc_19_20 : zfc 19 9 20 = some 0 := by decide +kernel
theorem zfc_19_21 : zfc 19 9 21 = some 62 := by decide +kernel
theorem zfc_19_22 : zfc 19 9 22 = some 0 := by decide +kernel
theorem zfc_19_23 : zfc 19 9 23 = some 0 := by decide +kernel
theorem zfc_19_24 : zfc 19 9 24 = some 0 := by decide +kernel
theorem zfc_19_25 : zfc 19 9 25 = some 63 := by decide +kernel
theorem zfc_19_26 : zfc 19 9 26 = some 64 := by decide +kernel
theorem zfc_19_27 : zfc 19 9 27 = some 0 := by decide +kernel
theorem zfc_19_28 : zfc 19 9 28 = some 0 := by decide +kernel
theorem zfc_19_29 : zfc 19 9 29 = some 0 := by decide +kernel
theorem zfc_19_30 : zfc 19 9 30 = some 1 := by decide +kernel
theorem zfc_19_31 : zfc 19 9 31 = some 0 := by decide +kernel
theorem zfc_19_32 : zfc 19 9 32 = some 1 := by decide +kernel
theorem zfc_19_33 : zfc 19 9 33 = some 1 := by decide +kernel
theorem zfc_19_34 : zfc 19 9 34 = some 0 := by decide +kernel
theorem zfc_19_35 : zfc 19 9 35 = some 0 := by decide +kernel
theorem zfc_19_36 : zfc 19 9 36 = some 0 := by decide +kernel
theorem zfc_19_37 : zfc 19 9 37 = some 0 := by decide +kernel
theorem zfc_19_38 : zfc 19 9 38 = some 1 := by decide +kernel
theorem zfc_19_39 : zfc 19 9 39 = some 0 := by decide +kernel
theorem zfc_19_40 : zfc 19 9 40 = some 65 := by decide +kernel
theorem zfc_19_41 : zfc 19 9 41 = some 66 := by decide +kernel
theorem zfc_19_42 : zfc 19 9 42 = some 67 := by decide +kernel
theorem zfc_19_43 : zfc 19 9 43 = some 0 := by decide +kernel
theorem zac_20 : zac 20 = some (4, 8) := by decide +kernel
theorem zfc_21_0 : zfc 21 7 0 = some 24 := by decide +kernel
theorem zfc_21_1 : zfc 21 7 1 = some 0 := by decide +kernel
theorem zfc_21_2 : zfc 21 7 2 = some 0 := by decide +kernel
theorem zfc_21_3 : zfc 21 7 3 = some 0 := by decide +kernel
theorem zfc_21_4 : zfc 21 7 4 = some 0 := by decide +kernel
theorem zfc_21_5 : zfc 21 7 5 = some 0 := by decide +kernel
theorem zfc_21_6 : zfc 21 7 6 = some 1 := by decide +kernel
theorem zac_22 : zac 22 = some (0, 256) := by decide +kernel
theorem zfc_23_0 : zfc 23 7 0 = some 26 := by decide +kernel
theorem zfc_23_1 : zfc 23 7 1 = some 0 := by decide +kernel
theorem zfc_23_2 : zfc 23 7 2 = some 0 := by decide +kernel
theorem zfc_23_3 : zfc 23 7 3 = some 0 := by decide +kernel
theorem zfc_23_4 : zfc 23 7 4 = some 0 := by decide +kernel
theorem zfc_23_5 : zfc 23 7 5 = some 0 := by decide +kernel
theorem zfc_23_6 : zfc 23 7 6 = some 1 := by decide +kernel
theorem zac_24 : zac 24 = some (0, 256) := by decide +kernel
theorem zfc_25_0 : zfc 25 7 0 = some 28 := by decide +kernel
theorem zfc_25_1 : zfc 25 7 1 = some 0 := by decide +kernel
theorem zfc_25_2 : zfc 25 7 2 = some 0 := by decide +kernel
theorem zfc_25_3 : zfc 25 7 3 = some 0 := by decide +kernel
theorem zfc_25_4 : zfc 25 7 4 = some 0 := by decide +kernel
theorem zfc_25_5 : zfc 25 7 5 = some 0 := by decide +kernel
theorem zfc_25_6 : zfc 25 7 6 = some 1 := by decide +kernel
theorem zac_26 : zac 26 = some (0, 256) := by decide +kernel
theorem zfc_27_0 : zfc 27 7 0 = some 30 := by decide +kernel
theorem zfc_27_1 : zfc 27 7 1 = some 0 := by decide +kernel
theorem zfc_27_2 : zfc 27 7 2 = some 0 := by decide +kernel
theorem zfc_27_3 : zfc 27 7 3 = some 0 := by decide +kernel
theorem zfc_27_4 : zfc 27 7 4 = some 0 := by decide +kernel
theorem zfc_27_5 : zfc 27 7 5 = some 0 := by decide +kernel
theorem zfc_27_6 : zfc 27 7 6 = some 1 := by decide +kernel
theorem zac_28 : zac 28 = some (0, 256) := by decide +kernel
theorem zfc_29_0 : zfc 29 7 0 = some 32 := by decide +kernel
theorem zfc_29_1 : zfc 29 7 1 = some 0 := by decide +kernel
theorem zfc_29_2 : zfc 29 7 2 = some 0 := by decide +kernel
theorem zfc_29_3 : zfc 29 7 3 = some 0 := by decide +kernel
theorem zfc_29_4 : zfc 29 7 4 = some 0 := by decide +kernel
theorem zfc_29_5 : zfc 29 7 5 = some 0 := by decide +kernel
theorem zfc_29_6 : zfc 29 7 6 = some 1 := by decide +kernel
theorem zac_30 : zac 30 = some (0, 256) := by decide +kernel
theorem zfc_31_0 : zfc 31 7 0 = some 34 := by decide +kernel
theorem zfc_31_1 : zfc 31 7 1 = some 0 := by decide +kernel
theorem zfc_31_2 : zfc 31 7 2 = some 0 := by decide +kernel
theorem zfc_31_3 : zfc 31 7 3 = some 0 := by decide +kernel
theorem zfc_31_4 : zfc 31 7 4 = some 0 := by decide +kernel
theorem zfc_31_5 : zfc 31 7 5 = some 0 := by decide +kernel
theorem zfc_31_6 : zfc 31 7 6 = some 1 := by decide +kernel
theorem zac_32 : zac 32 = some (0, 256) := by decide +kernel
theorem zfc_33_0 : zfc 33 7 0 = some 36 := by decide +kernel
theorem zfc_33_1 : zfc 33 7 1 = some 0 := by decide +kernel
theorem zfc_33_2 : zfc 33 7 2 = some 0 := by decide +kernel
theorem zfc_33_3 : zfc 33 7 3 = some 0 := by decide +kernel
theorem zfc_33_4 : zfc 33 7 4 = some 0 := by decide +kernel
theorem zfc_33_5 : zfc 33 7 5 = some 0 := by decide +kernel
theorem zfc_33_6 : zfc 33 7 6 = some 1 := by decide +kernel
theorem zac_34 : zac 34 = some (0, 256) := by decide +kernel
theorem zfc_35_0 : zfc 35 7 0 = some 38 := by decide +kernel
theorem zfc_35_1 : zfc 35 7 1 = some 0 := by decide +kernel
theorem zfc_35_2 : zfc 35 7 2 = some 0 := by decide +kernel
theorem zfc_35_3 : zfc 35 7 3 = some 0 := by decide +kernel
theorem zfc_35_4 : zfc 35 7 4 = some 0 := by decide +kernel
theorem zfc_35_5 : zfc 35 7 5 = some 0 := by decide +kernel
theorem zfc_35_6 : zfc 35 7 6 = some 1 := by decide +kernel
theorem zac_36 : zac 36 = some (0, 256) := by decide +kernel
theorem zfc_37_0 : zfc 37 4 0 = some 40 := by decide +kernel
theorem zfc_37_1 : zfc 37 4 1 = some 0 := by decide +kernel
theorem zfc_37_2 : zfc 37 4 2 = some 0 := by decide +kernel
theorem zfc_37_3 : zfc 37 4 3 = some 0 := by decide +kernel
theorem zfc_37_4 : zfc 37 4 4 = some 41 := by decide +kernel
theorem zfc_37_5 : zfc 37 4 5 = some 0 := by decide +kernel
theorem zfc_37_6 : zfc 37 4 6 = some 42 := by decide +kernel
theorem zfc_37_7 : zfc 37 4 7 = some 0 := by decide +kernel
theorem zfc_37_8 : zfc 37 4 8 = some 0 := by decide +kernel
theorem zfc_37_9 : zfc 37 4 9 = some 43 := by decide +kernel
theorem zfc_37_10 : zfc 37 4 10 = some 52 := by decide +kernel
theorem zac_38 : zac 38 = some (2, 20000) := by decide +kernel
theorem zfc_39_0 : zfc 39 6 0 = some 0 := by decide +kernel
theorem zfc_39_1 : zfc 39 6 1 = some 0 := by decide +kernel
theorem zfc_39_2 : zfc 39 6 2 = some 0 := by decide +kernel
theorem zfc_39_3 : zfc 39 6 3 = some 0 := by decide +kernel
theorem zac_40 : zac 40 = some (0, 4096) := by decide +kernel
theorem zac_41 : zac 41 = some (3, 8) := by decide +kernel
theorem zac_42 : zac 42 = some (0, 256) := by decide +kernel
theorem zac_43 : zac 43 = some (0, 256) := by decide +kernel
theorem zac_44 : zac 44 = some (0, 256) := by decide +kernel
theorem zac_45 : zac 45 = some (0, 256) := by decide +kernel
theorem zac_46 : zac 46 = some (0, 256) := by decide +kernel
theorem zac_47 : zac 47 = some (0, 256) := by decide +kernel
theorem zac_48 : zac 48 = some (0, 256) := by decide +kernel
theorem zac_49 : zac 49 = some (0, 256) := by decide +kernel
theorem zfc_50_0 : zfc 50 3 0 = some 53 := by decide +kernel
theorem zfc_50_1 : zfc 50 3 1 = some 0 := by decide +kernel
theorem zfc_50_2 : zfc 50 3 2 = some 0 := by decide +kernel
theorem zac_51 : zac 51 = some (0, 32) := by decide +kernel
theorem zac_52 : zac 52 = some (0, 8) := by decide +kernel
theorem zac_53 : zac 53 = some (0, 4096) := by decide +kernel
theorem zac_54 : zac 54 = some (1, 2500) := by decide +kernel
theorem zac_55 : zac 55 = some (0, 264) := by decide +kernel
theorem zac_56 : zac 56 = some (0, 264) := by decide +kernel
theorem zac_57 : zac 57 = some (0, 264) := by decide +kernel
theorem zac_58 : zac 58 = some (0, 264) := by decide +kernel
theorem zac_59 : zac 59 = some (0, 256) := by decide +kernel
theorem zac_60 : zac 60 = some (1, 2500) := by decide +kernel
theorem zac_61 : zac 61 = some (1, 256) := by decide +kernel
theorem zac_62 : zac 62 = some (1, 256) := by decide +kernel
theorem zac_63 : zac 63 = some (0, 4096) := by decide +kernel
theorem zac_64 : zac 64 = some (1, 2048) := by decide +kernel
theorem zac_65 : zac 65 = some (0, 32) := by decide +kernel
