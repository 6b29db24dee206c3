theorem dX9_readFrame_114 : decode cX9_readFrame 114 = .ok (.invokevirtual 331, 3) := by decide +kernel
theorem dX9_readFrame_117 : decode cX9_readFrame 117 = .ok (.iconst 0, 1) := by decide +kernel
theorem dX9_readFrame_118 : decode cX9_readFrame 118 = .ok (.istore 10, 2) := by decide +kernel
theorem dX9_readFrame_120 : decode cX9_readFrame 120 = .ok (.iload 10, 2) := by decide +kernel
theorem dX9_readFrame_122 : decode cX9_readFrame 122 = .ok (.aload_n 0, 1) := by decide +kernel
theorem dX9_readFrame_123 : decode cX9_readFrame 123 = .ok (.getfield 290, 3) := by decide +kernel
theorem dX9_readFrame_126 : decode cX9_readFrame 126 = .ok (.if_icmp .ge 65, 3) := by decide +kernel
theorem dX9_readFrame_129 : decode cX9_readFrame 129 = .ok (.aload_n 0, 1) := by decide +kernel
theorem dX9_readFrame_130 : decode cX9_readFrame 130 = .ok (.getfield 264, 3) := by decide +kernel
theorem dX9_readFrame_133 : decode cX9_readFrame 133 = .ok (.ifCond .ne 58, 3) := by decide +kernel
theorem dX9_readFrame_136 : decode cX9_readFrame 136 = .ok (.aload_n 0, 1) := by decide +kernel
theorem dX9_readFrame_137 : decode cX9_readFrame 137 = .ok (.iload 10, 2) := by decide +kernel
theorem dX9_readFrame_139 : decode cX9_readFrame 139 = .ok (.iload_n 2, 1) := by decide +kernel
theorem dX9_readFrame_140 : decode cX9_readFrame 140 = .ok (.aload_n 0, 1) := by decide +kernel
theorem dX9_readFrame_141 : decode cX9_readFrame 141 = .ok (.getfield 295, 3) := by decide +kernel
theorem dX9_readFrame_144 : decode cX9_readFrame 144 = .ok (.iload 7, 2) := by decide +kernel
theorem dX9_readFrame_146 : decode cX9_readFrame 146 = .ok (.bipush 9, 2) := by decide +kernel
theorem dX9_readFrame_148 : decode cX9_readFrame 148 = .ok (.if_icmp .ne 8, 3) := by decide +kernel
theorem dX9_readFrame_151 : decode cX9_readFrame 151 = .ok (.iload 10, 2) := by decide +kernel
theorem dX9_readFrame_153 : decode cX9_readFrame 153 = .ok (.ifCond .eq 23, 3) := by decide +kernel
theorem dX9_readFrame_156 : decode cX9_readFrame 156 = .ok (.iload 7, 2) := by decide +kernel
theorem dX9_readFrame_158 : decode cX9_readFrame 158 = .ok (.bipush 8, 2) := by decide +kernel
theorem dX9_readFrame_160 : decode cX9_readFrame 160 = .ok (.if_icmp .eq 10, 3) := by decide +kernel
theorem dX9_readFrame_163 : decode cX9_readFrame 163 = .ok (.iload 7, 2) := by decide +kernel
theorem dX9_readFrame_165 : decode cX9_readFrame 165 = .ok (.bipush 10, 2) := by decide +kernel
theorem dX9_readFrame_167 : decode cX9_readFrame 167 = .ok (.if_icmp .ne 13, 3) := by decide +kernel
theorem dX9_readFrame_170 : decode cX9_readFrame 170 = .ok (.iload 10, 2) := by decide +kernel
theorem dX9_readFrame_172 : decode cX9_readFrame 172 = .ok (.iconst 1, 1) := by decide +kernel
theorem dX9_readFrame_173 : decode cX9_readFrame 173 = .ok (.if_icmp .ne 7, 3) := by decide +kernel
theorem dX9_readFrame_176 : decode cX9_readFrame 176 = .ok (.iconst 1, 1) := by decide +kernel
theorem dX9_readFrame_177 : decode cX9_readFrame 177 = .ok (.goto 4, 3) := by decide +kernel
theorem dX9_readFrame_180 : decode cX9_readFrame 180 = .ok (.iconst 0, 1) := by decide +kernel
theorem dX9_readFrame_181 : decode cX9_readFrame 181 = .ok (.iadd, 1) := by decide +kernel
theorem dX9_readFrame_182 : decode cX9_readFrame 182 = .ok (.invokevirtual 335, 3) := by decide +kernel
theorem dX9_readFrame_185 : decode cX9_readFrame 185 = .ok (.iinc 10 1, 3) := by decide +kernel
theorem dX9_readFrame_188 : decode cX9_readFrame 188 = .ok (.goto (-68), 3) := by decide +kernel
theorem dX9_readFrame_191 : decode cX9_readFrame 191 = .ok (.ldc2_w 73, 3) := by decide +kernel
theorem dX9_readFrame_194 : decode cX9_readFrame 194 = .ok (.aload_n 0, 1) := by decide +kernel
theorem dX9_readFrame_195 : decode cX9_readFrame 195 = .ok (.getfield 267, 3) := by decide +kernel
theorem dX9_readFrame_198 : decode cX9_readFrame 198 = .ok (.ldc2_w 73, 3) := by decide +kernel
theorem dX9_readFrame_201 : decode cX9_readFrame 201 = .ok (.lrem, 1) := by decide +kernel
theorem dX9_readFrame_202 : decode cX9_readFrame 202 = .ok (.lsub, 1) := by decide +kernel
theorem dX9_readFrame_203 : decode cX9_readFrame 203 = .ok (.ldc2_w 73, 3) := by decide +kernel
theorem dX9_readFrame_206 : decode cX9_readFrame 206 = .ok (.lrem, 1) := by decide +kernel
theorem dX9_readFrame_207 : decode cX9_readFrame 207 = .ok (.l2i, 1) := by decide +kernel
theorem dX9_readFrame_208 : decode cX9_readFrame 208 = .ok (.istore 10, 2) := by decide +kernel
theorem dX9_readFrame_210 : decode cX9_readFrame 210 = .ok (.aload_n 0, 1) := by decide +kernel
theorem dX9_readFrame_211 : decode cX9_readFrame 211 = .ok (.iload 10, 2) := by decide +kernel
theorem dX9_readFrame_213 : decode cX9_readFrame 213 = .ok (.lconst 0, 1) := by decide +kernel
theorem dX9_readFrame_214 : decode cX9_readFrame 214 = .ok (.lconst 0, 1) := by decide +kernel
theorem dX9_readFrame_215 : decode cX9_readFrame 215 = .ok (.invokevirtual 280, 3) := by decide +kernel
theorem dX9_readFrame_218 : decode cX9_readFrame 218 = .ok (.lstore 5, 2) := by decide +kernel
theorem dX9_readFrame_220 : decode cX9_readFrame 220 = .ok (.aload_n 0, 1) := by decide +kernel
theorem dX9_readFrame_221 : decode cX9_readFrame 221 = .ok (.getfield 267, 3) := by decide +kernel
theorem dX9_readFrame_224 : decode cX9_readFrame 224 = .ok (.lstore 8, 2) := by decide +kernel
theorem dX9_readFrame_226 : decode cX9_readFrame 226 = .ok (.aload_n 0, 1) := by decide +kernel
theorem dX9_readFrame_227 : decode cX9_readFrame 227 = .ok (.lload_n 3, 1) := by decide +kernel
theorem dX9_readFrame_228 : decode cX9_readFrame 228 = .ok (.bipush 16, 2) := by decide +kernel
theorem dX9_readFrame_230 : decode cX9_readFrame 230 = .ok (.invokevirtual 331, 3) := by decide +kernel
theorem dX9_readFrame_233 : decode cX9_readFrame 233 = .ok (.aload_n 0, 1) := by decide +kernel
theorem dX9_readFrame_234 : decode cX9_readFrame 234 = .ok (.getfield 264, 3) := by decide +kernel
theorem dX9_readFrame_237 : decode cX9_readFrame 237 = .ok (.ifCond .ne 22, 3) := by decide +kernel
theorem dX9_readFrame_240 : decode cX9_readFrame 240 = .ok (.aload_n 0, 1) := by decide +kernel
theorem dX9_readFrame_241 : decode cX9_readFrame 241 = .ok (.iload 7, 2) := by decide +kernel
theorem dX9_readFrame_243 : decode cX9_readFrame 243 = .ok (.iload_n 2, 1) := by decide +kernel
theorem dX9_readFrame_244 : decode cX9_readFrame 244 = .ok (.invokevirtual 338, 3) := by decide +kernel
theorem dX9_readFrame_247 : decode cX9_readFrame 247 = .ok (.ifCond .ne 12, 3) := by decide +kernel
theorem dX9_readFrame_250 : decode cX9_readFrame 250 = .ok (.aload_n 0, 1) := by decide +kernel
theorem dX9_readFrame_251 : decode cX9_readFrame 251 = .ok (.iconst 4, 1) := by decide +kernel
theorem dX9_readFrame_252 : decode cX9_readFrame 252 = .ok (.lload 8, 2) := by decide +kernel
theorem dX9_readFrame_254 : decode cX9_readFrame 254 = .ok (.invokevirtual 273, 3) := by decide +kernel
theorem dX9_readFrame_257 : decode cX9_readFrame 257 = .ok (.istore 11, 2) := by decide +kernel
theorem dX9_readFrame_259 : decode cX9_readFrame 259 = .ok (.return_, 1) := by decide +kernel
theorem dX9_readSum_0 : decode cX9_readSum 0 = .ok (.aload_n 0, 1) := by decide +kernel
theorem dX9_readSum_1 : decode cX9_readSum 1 = .ok (.getfield 267, 3) := by decide +kernel
theorem dX9_readSum_4 : decode cX9_readSum 4 = .ok (.lstore 4, 2) := by decide +kernel
theorem dX9_readSum_6 : decode cX9_readSum 6 = .ok (.aload_n 0, 1) := by decide +kernel
theorem dX9_readSum_7 : decode cX9_readSum 7 = .ok (.iload_n 3, 1) := by decide +kernel
theorem dX9_readSum_8 : decode cX9_readSum 8 = .ok (.invokevirtual 277, 3) := by decide +kernel
theorem dX9_readSum_11 : decode cX9_readSum 11 = .ok (.lstore 6, 2) := by decide +kernel
theorem dX9_readSum_13 : decode cX9_readSum 13 = .ok (.aload_n 0, 1) := by decide +kernel
theorem dX9_readSum_14 : decode cX9_readSum 14 = .ok (.getfield 264, 3) := by decide +kernel
theorem dX9_readSum_17 : decode cX9_readSum 17 = .ok (.ifCond .ne 50, 3) := by decide +kernel
theorem dX9_readSum_20 : decode cX9_readSum 20 = .ok (.lload 6, 2) := by decide +kernel
theorem dX9_readSum_22 : decode cX9_readSum 22 = .ok (.aload_n 0, 1) := by decide +kernel
theorem dX9_readSum_23 : decode cX9_readSum 23 = .ok (.getfield 49, 3) := by decide +kernel
theorem dX9_readSum_26 : decode cX9_readSum 26 = .ok (.lload_n 1, 1) := by decide +kernel
theorem dX9_readSum_27 : decode cX9_readSum 27 = .ok (.ldc2_w 73, 3) := by decide +kernel
theorem dX9_readSum_30 : decode cX9_readSum 30 = .ok (.ldiv, 1) := by decide +kernel
theorem dX9_readSum_31 : decode cX9_readSum 31 = .ok (.l2i, 1) := by decide +kernel
theorem dX9_readSum_32 : decode cX9_readSum 32 = .ok (.lload 4, 2) := by decide +kernel
theorem dX9_readSum_34 : decode cX9_readSum 34 = .ok (.ldc2_w 73, 3) := by decide +kernel
theorem dX9_readSum_37 : decode cX9_readSum 37 = .ok (.ldiv, 1) := by decide +kernel
theorem dX9_readSum_38 : decode cX9_readSum 38 = .ok (.l2i, 1) := by decide +kernel
theorem dX9_readSum_39 : decode cX9_readSum 39 = .ok (.iload_n 3, 1) := by decide +kernel
theorem dX9_readSum_40 : decode cX9_readSum 40 = .ok (.bipush 16, 2) := by decide +kernel
theorem dX9_readSum_42 : decode cX9_readSum 42 = .ok (.if_icmp .ne 7, 3) := by decide +kernel
theorem dX9_readSum_45 : decode cX9_readSum 45 = .ok (.iconst 1, 1) := by decide +kernel
theorem dX9_readSum_46 : decode cX9_readSum 46 = .ok (.goto 4, 3) := by decide +kernel
theorem dX9_readSum_49 : decode cX9_readSum 49 = .ok (.iconst 0, 1) := by decide +kernel
theorem dX9_readSum_50 : decode cX9_readSum 50 = .ok (.invokestatic 232, 3) := by decide +kernel
theorem dX9_readSum_53 : decode cX9_readSum 53 = .ok (.i2l, 1) := by decide +kernel
theorem dX9_readSum_54 : decode cX9_readSum 54 = .ok (.lcmp, 1) := by decide +kernel
theorem dX9_readSum_55 : decode cX9_readSum 55 = .ok (.ifCond .eq 12, 3) := by decide +kernel
theorem dX9_readSum_58 : decode cX9_readSum 58 = .ok (.aload_n 0, 1) := by decide +kernel
theorem dX9_readSum_59 : decode cX9_readSum 59 = .ok (.iconst 3, 1) := by decide +kernel
theorem dX9_readSum_60 : decode cX9_readSum 60 = .ok (.lload 4, 2) := by decide +kernel
theorem dX9_readSum_62 : decode cX9_readSum 62 = .ok (.invokevirtual 273, 3) := by decide +kernel
theorem dX9_readSum_65 : decode cX9_readSum 65 = .ok (.istore 8, 2) := by decide +kernel
theorem dX9_readSum_67 : decode cX9_readSum 67 = .ok (.return_, 1) := by decide +kernel
theorem dX9_isKept_0 : decode cX9_isKept 0 = .ok (.iconst 0, 1) := by decide +kernel
theorem dX9_isKept_1 : decode cX9_isKept 1 = .ok (.istore_n 3, 1) := by decide +kernel
theorem dX9_isKept_2 : decode cX9_isKept 2 = .ok (.iload_n 3, 1) := by decide +kernel
theorem dX9_isKept_3 : decode cX9_isKept 3 = .ok (.iload_n 2, 1) := by decide +kernel
theorem dX9_isKept_4 : decode cX9_isKept 4 = .ok (.if_icmp .ge 204, 3) := by decide +kernel
theorem dX9_isKept_7 : decode cX9_isKept 7 = .ok (.aload_n 0, 1) := by decide +kernel
theorem dX9_isKept_8 : decode cX9_isKept 8 = .ok (.getfield 64, 3) := by decide +kernel
theorem dX9_isKept_11 : decode cX9_isKept 11 = .ok (.iload_n 3, 1) := by decide +kernel
theorem dX9_isKept_12 : decode cX9_isKept 12 = .ok (.laload, 1) := by decide +kernel
theorem dX9_isKept_13 : decode cX9_isKept 13 = .ok (.lstore 4, 2) := by decide +kernel
theorem dX9_isKept_15 : decode cX9_isKept 15 = .ok (.aload_n 0, 1) := by decide +kernel
theorem dX9_isKept_16 : decode cX9_isKept 16 = .ok (.getfield 290, 3) := by decide +kernel
theorem dX9_isKept_19 : decode cX9_isKept 19 = .ok (.iconst 1, 1) := by decide +kernel
theorem dX9_isKept_20 : decode cX9_isKept 20 = .ok (.if_icmp .le 16, 3) := by decide +kernel
theorem dX9_isKept_23 : decode cX9_isKept 23 = .ok (.aload_n 0, 1) := by decide +kernel
theorem dX9_isKept_24 : decode cX9_isKept 24 = .ok (.getfield 64, 3) := by decide +kernel
theorem dX9_isKept_27 : decode cX9_isKept 27 = .ok (.sipush 256, 3) := by decide +kernel
theorem dX9_isKept_30 : decode cX9_isKept 30 = .ok (.iload_n 3, 1) := by decide +kernel
theorem dX9_isKept_31 : decode cX9_isKept 31 = .ok (.iadd, 1) := by decide +kernel
theorem dX9_isKept_32 : decode cX9_isKept 32 = .ok (.laload, 1) := by decide +kernel
theorem dX9_isKept_33 : decode cX9_isKept 33 = .ok (.goto 4, 3) := by decide +kernel
theorem dX9_isKept_36 : decode cX9_isKept 36 = .ok (.lconst 0, 1) := by decide +kernel
theorem dX9_isKept_37 : decode cX9_isKept 37 = .ok (.lstore 6, 2) := by decide +kernel
theorem dX9_isKept_39 : decode cX9_isKept 39 = .ok (.iload_n 1, 1) := by decide +kernel
theorem dX9_isKept_40 : decode cX9_isKept 40 = .ok (.bipush 8, 2) := by decide +kernel
theorem dX9_isKept_42 : decode cX9_isKept 42 = .ok (.if_icmp .ne 18, 3) := by decide +kernel
theorem dX9_isKept_45 : decode cX9_isKept 45 = .ok (.aload_n 0, 1) := by decide +kernel
theorem dX9_isKept_46 : decode cX9_isKept 46 = .ok (.getfield 64, 3) := by decide +kernel
theorem dX9_isKept_49 : decode cX9_isKept 49 = .ok (.sipush 256, 3) := by decide +kernel
theorem dX9_isKept_52 : decode cX9_isKept 52 = .ok (.iload_n 3, 1) := by decide +kernel
theorem dX9_isKept_53 : decode cX9_isKept 53 = .ok (.iadd, 1) := by decide +kernel
theorem dX9_isKept_54 : decode cX9_isKept 54 = .ok (.lload 4, 2) := by decide +kernel
theorem dX9_isKept_56 : decode cX9_isKept 56 = .ok (.lload 6, 2) := by decide +kernel
theorem dX9_isKept_58 : decode cX9_isKept 58 = .ok (.lsub, 1) := by decide +kernel
theorem dX9_isKept_59 : decode cX9_isKept 59 = .ok (.lastore, 1) := by decide +kernel
theorem dX9_isKept_60 : decode cX9_isKept 60 = .ok (.iload_n 1, 1) := by decide +kernel
theorem dX9_isKept_61 : decode cX9_isKept 61 = .ok (.bipush 9, 2) := by decide +kernel
theorem dX9_isKept_63 : decode cX9_isKept 63 = .ok (.if_icmp .ne 14, 3) := by decide +kernel
theorem dX9_isKept_66 : decode cX9_isKept 66 = .ok (.aload_n 0, 1) := by decide +kernel
theorem dX9_isKept_67 : decode cX9_isKept 67 = .ok (.getfield 64, 3) := by decide +kernel
theorem dX9_isKept_70 : decode cX9_isKept 70 = .ok (.iload_n 3, 1) := by decide +kernel
theorem dX9_isKept_71 : decode cX9_isKept 71 = .ok (.lload 4, 2) := by decide +kernel
theorem dX9_isKept_73 : decode cX9_isKept 73 = .ok (.lload 6, 2) := by decide +kernel
theorem dX9_isKept_75 : decode cX9_isKept 75 = .ok (.ladd, 1) := by decide +kernel
theorem dX9_isKept_76 : decode cX9_isKept 76 = .ok (.lastore, 1) := by decide +kernel
theorem dX9_isKept_77 : decode cX9_isKept 77 = .ok (.iload_n 1, 1) := by decide +kernel
theorem dX9_isKept_78 : decode cX9_isKept 78 = .ok (.bipush 10, 2) := by decide +kernel
theorem dX9_isKept_80 : decode cX9_isKept 80 = .ok (.if_icmp .ne 46, 3) := by decide +kernel
theorem dX9_isKept_83 : decode cX9_isKept 83 = .ok (.ldc2_w 111, 3) := by decide +kernel
theorem dX9_isKept_86 : decode cX9_isKept 86 = .ok (.lload 4, 2) := by decide +kernel
theorem dX9_isKept_88 : decode cX9_isKept 88 = .ok (.lmul, 1) := by decide +kernel
theorem dX9_isKept_89 : decode cX9_isKept 89 = .ok (.lload 6, 2) := by decide +kernel
theorem dX9_isKept_91 : decode cX9_isKept 91 = .ok (.lconst 1, 1) := by decide +kernel
theorem dX9_isKept_92 : decode cX9_isKept 92 = .ok (.land, 1) := by decide +kernel
theorem dX9_isKept_93 : decode cX9_isKept 93 = .ok (.ladd, 1) := by decide +kernel
theorem dX9_isKept_94 : decode cX9_isKept 94 = .ok (.lstore 8, 2) := by decide +kernel
theorem dX9_isKept_96 : decode cX9_isKept 96 = .ok (.aload_n 0, 1) := by decide +kernel
theorem dX9_isKept_97 : decode cX9_isKept 97 = .ok (.getfield 64, 3) := by decide +kernel
theorem dX9_isKept_100 : decode cX9_isKept 100 = .ok (.iload_n 3, 1) := by decide +kernel
theorem dX9_isKept_101 : decode cX9_isKept 101 = .ok (.lload 8, 2) := by decide +kernel
theorem dX9_isKept_103 : decode cX9_isKept 103 = .ok (.lload 6, 2) := by decide +kernel
theorem dX9_isKept_105 : decode cX9_isKept 105 = .ok (.ladd, 1) := by decide +kernel
theorem dX9_isKept_106 : decode cX9_isKept 106 = .ok (.iconst 1, 1) := by decide +kernel
theorem dX9_isKept_107 : decode cX9_isKept 107 = .ok (.lshr, 1) := by decide +kernel
theorem dX9_isKept_108 : decode cX9_isKept 108 = .ok (.lastore, 1) := by decide +kernel
theorem dX9_isKept_109 : decode cX9_isKept 109 = .ok (.aload_n 0, 1) := by decide +kernel
theorem dX9_isKept_110 : decode cX9_isKept 110 = .ok (.getfield 64, 3) := by decide +kernel
theorem dX9_isKept_113 : decode cX9_isKept 113 = .ok (.sipush 256, 3) := by decide +kernel
theorem dX9_isKept_116 : decode cX9_isKept 116 = .ok (.iload_n 3, 1) := by decide +kernel
theorem dX9_isKept_117 : decode cX9_isKept 117 = .ok (.iadd, 1) := by decide +kernel
theorem dX9_isKept_118 : decode cX9_isKept 118 = .ok (.lload 8, 2) := by decide +kernel
theorem dX9_isKept_120 : decode cX9_isKept 120 = .ok (.lload 6, 2) := by decide +kernel
theorem dX9_isKept_122 : decode cX9_isKept 122 = .ok (.lsub, 1) := by decide +kernel
theorem dX9_isKept_123 : decode cX9_isKept 123 = .ok (.iconst 1, 1) := by decide +kernel
theorem dX9_isKept_124 : decode cX9_isKept 124 = .ok (.lshr, 1) := by decide +kernel
theorem dX9_isKept_125 : decode cX9_isKept 125 = .ok (.lastore, 1) := by decide +kernel
theorem dX9_isKept_126 : decode cX9_isKept 126 = .ok (.iconst 0, 1) := by decide +kernel
theorem dX9_isKept_127 : decode cX9_isKept 127 = .ok (.istore 8, 2) := by decide +kernel
theorem dX9_isKept_129 : decode cX9_isKept 129 = .ok (.iload 8, 2) := by decide +kernel
theorem dX9_isKept_131 : decode cX9_isKept 131 = .ok (.aload_n 0, 1) := by decide +kernel
theorem dX9_isKept_132 : decode cX9_isKept 132 = .ok (.getfield 290, 3) := by decide +kernel
theorem dX9_isKept_135 : decode cX9_isKept 135 = .ok (.if_icmp .ge 67, 3) := by decide +kernel
theorem dX9_isKept_138 : decode cX9_isKept 138 = .ok (.aload_n 0, 1) := by decide +kernel
theorem dX9_isKept_139 : decode cX9_isKept 139 = .ok (.getfield 64, 3) := by decide +kernel
theorem dX9_isKept_142 : decode cX9_isKept 142 = .ok (.sipush 256, 3) := by decide +kernel
theorem dX9_isKept_145 : decode cX9_isKept 145 = .ok (.iload 8, 2) := by decide +kernel
theorem dX9_isKept_147 : decode cX9_isKept 147 = .ok (.imul, 1) := by decide +kernel
theorem dX9_isKept_148 : decode cX9_isKept 148 = .ok (.iload_n 3, 1) := by decide +kernel
theorem dX9_isKept_149 : decode cX9_isKept 149 = .ok (.iadd, 1) := by decide +kernel
theorem dX9_isKept_150 : decode cX9_isKept 150 = .ok (.laload, 1) := by decide +kernel
theorem dX9_isKept_151 : decode cX9_isKept 151 = .ok (.aload_n 0, 1) := by decide +kernel
theorem dX9_isKept_152 : decode cX9_isKept 152 = .ok (.getfield 295, 3) := by decide +kernel
theorem dX9_isKept_155 : decode cX9_isKept 155 = .ok (.invokestatic 104, 3) := by decide +kernel
theorem dX9_isKept_158 : decode cX9_isKept 158 = .ok (.ifCond .ne 5, 3) := by decide +kernel
theorem dX9_isKept_161 : decode cX9_isKept 161 = .ok (.iconst 0, 1) := by decide +kernel
theorem dX9_isKept_162 : decode cX9_isKept 162 = .ok (.ireturn, 1) := by decide +kernel
theorem dX9_isKept_163 : decode cX9_isKept 163 = .ok (.aload_n 0, 1) := by decide +kernel
theorem dX9_isKept_164 : decode cX9_isKept 164 = .ok (.getfield 61, 3) := by decide +kernel
theorem dX9_isKept_167 : decode cX9_isKept 167 = .ok (.aload_n 0, 1) := by decide +kernel
theorem dX9_isKept_168 : decode cX9_isKept 168 = .ok (.getfield 342, 3) := by decide +kernel
theorem dX9_isKept_171 : decode cX9_isKept 171 = .ok (.aload_n 0, 1) := by decide +kernel
theorem dX9_isKept_172 : decode cX9_isKept 172 = .ok (.getfield 64, 3) := by decide +kernel
theorem dX9_isKept_175 : decode cX9_isKept 175 = .ok (.sipush 256, 3) := by decide +kernel
theorem dX9_isKept_178 : decode cX9_isKept 178 = .ok (.iload 8, 2) := by decide +kernel
theorem dX9_isKept_180 : decode cX9_isKept 180 = .ok (.imul, 1) := by decide +kernel
theorem dX9_isKept_181 : decode cX9_isKept 181 = .ok (.iload_n 3, 1) := by decide +kernel
theorem dX9_isKept_182 : decode cX9_isKept 182 = .ok (.iadd, 1) := by decide +kernel
theorem dX9_isKept_183 : decode cX9_isKept 183 = .ok (.laload, 1) := by decide +kernel
theorem dX9_isKept_184 : decode cX9_isKept 184 = .ok (.l2i, 1) := by decide +kernel
theorem dX9_isKept_185 : decode cX9_isKept 185 = .ok (.iastore, 1) := by decide +kernel
theorem dX9_isKept_186 : decode cX9_isKept 186 = .ok (.aload_n 0, 1) := by decide +kernel
theorem dX9_isKept_187 : decode cX9_isKept 187 = .ok (.dup, 1) := by decide +kernel
theorem dX9_isKept_188 : decode cX9_isKept 188 = .ok (.getfield 342, 3) := by decide +kernel
theorem dX9_isKept_191 : decode cX9_isKept 191 = .ok (.iconst 1, 1) := by decide +kernel
theorem dX9_isKept_192 : decode cX9_isKept 192 = .ok (.iadd, 1) := by decide +kernel
theorem dX9_isKept_193 : decode cX9_isKept 193 = .ok (.putfield 342, 3) := by decide +kernel
theorem dX9_isKept_196 : decode cX9_isKept 196 = .ok (.iinc 8 1, 3) := by decide +kernel
theorem dX9_isKept_199 : decode cX9_isKept 199 = .ok (.goto (-70), 3) := by decide +kernel
theorem dX9_isKept_202 : decode cX9_isKept 202 = .ok (.iinc 3 1, 3) := by decide +kernel
theorem dX9_isKept_205 : decode cX9_isKept 205 = .ok (.goto (-203), 3) := by decide +kernel
theorem dX9_isKept_208 : decode cX9_isKept 208 = .ok (.iconst 1, 1) := by decide +kernel
theorem dX9_isKept_209 : decode cX9_isKept 209 = .ok (.ireturn, 1) := by decide +kernel
theorem dX9_readRow_0 : decode cX9_readRow 0 = .ok (.aload_n 0, 1) := by decide +kernel
theorem dX9_readRow_1 : decode cX9_readRow 1 = .ok (.iconst 1, 1) := by decide +kernel
theorem dX9_readRow_2 : decode cX9_readRow 2 = .ok (.lconst 0, 1) := by decide +kernel
theorem dX9_readRow_3 : decode cX9_readRow 3 = .ok (.lconst 0, 1) := by decide +kernel
theorem dX9_readRow_4 : decode cX9_readRow 4 = .ok (.invokevirtual 280, 3) := by decide +kernel
theorem dX9_readRow_7 : decode cX9_readRow 7 = .ok (.lstore 4, 2) := by decide +kernel
theorem dX9_readRow_9 : decode cX9_readRow 9 = .ok (.aload_n 0, 1) := by decide +kernel
theorem dX9_readRow_10 : decode cX9_readRow 10 = .ok (.getfield 267, 3) := by decide +kernel
theorem dX9_readRow_13 : decode cX9_readRow 13 = .ok (.lstore 6, 2) := by decide +kernel
theorem dX9_readRow_15 : decode cX9_readRow 15 = .ok (.aload_n 0, 1) := by decide +kernel
theorem dX9_readRow_16 : decode cX9_readRow 16 = .ok (.bipush 6, 2) := by decide +kernel
theorem dX9_readRow_18 : decode cX9_readRow 18 = .ok (.invokevirtual 277, 3) := by decide +kernel
theorem dX9_readRow_21 : decode cX9_readRow 21 = .ok (.l2i, 1) := by decide +kernel
theorem dX9_readRow_22 : decode cX9_readRow 22 = .ok (.istore 8, 2) := by decide +kernel
theorem dX9_readRow_24 : decode cX9_readRow 24 = .ok (.iload 8, 2) := by decide +kernel
theorem dX9_readRow_26 : decode cX9_readRow 26 = .ok (.iconst 2, 1) := by decide +kernel
theorem dX9_readRow_27 : decode cX9_readRow 27 = .ok (.if_icmp .lt 43, 3) := by decide +kernel
theorem dX9_readRow_30 : decode cX9_readRow 30 = .ok (.iload 8, 2) := by decide +kernel
theorem dX9_readRow_32 : decode cX9_readRow 32 = .ok (.i2l, 1) := by decide +kernel
theorem dX9_readRow_33 : decode cX9_readRow 33 = .ok (.ldc2_w 73, 3) := by decide +kernel
theorem dX9_readRow_36 : decode cX9_readRow 36 = .ok (.ldc2_w 345, 3) := by decide +kernel
theorem dX9_readRow_39 : decode cX9_readRow 39 = .ok (.invokestatic 75, 3) := by decide +kernel
theorem dX9_readRow_42 : decode cX9_readRow 42 = .ok (.ifCond .eq 12, 3) := by decide +kernel
theorem dX9_readRow_45 : decode cX9_readRow 45 = .ok (.iload 8, 2) := by decide +kernel
theorem dX9_readRow_47 : decode cX9_readRow 47 = .ok (.bipush 8, 2) := by decide +kernel
theorem dX9_readRow_49 : decode cX9_readRow 49 = .ok (.isub, 1) := by decide +kernel
theorem dX9_readRow_50 : decode cX9_readRow 50 = .ok (.iload_n 2, 1) := by decide +kernel
theorem dX9_readRow_51 : decode cX9_readRow 51 = .ok (.if_icmp .le 19, 3) := by decide +kernel
theorem dX9_readRow_54 : decode cX9_readRow 54 = .ok (.iload 8, 2) := by decide +kernel
theorem dX9_readRow_56 : decode cX9_readRow 56 = .ok (.bipush 31, 2) := by decide +kernel
theorem dX9_readRow_58 : decode cX9_readRow 58 = .ok (.if_icmp .le 16, 3) := by decide +kernel
theorem dX9_readRow_61 : decode cX9_readRow 61 = .ok (.iload 8, 2) := by decide +kernel
theorem dX9_readRow_63 : decode cX9_readRow 63 = .ok (.bipush 31, 2) := by decide +kernel
theorem dX9_readRow_65 : decode cX9_readRow 65 = .ok (.isub, 1) := by decide +kernel
theorem dX9_readRow_66 : decode cX9_readRow 66 = .ok (.iload_n 2, 1) := by decide +kernel
theorem dX9_readRow_67 : decode cX9_readRow 67 = .ok (.if_icmp .gt 7, 3) := by decide +kernel
theorem dX9_readRow_70 : decode cX9_readRow 70 = .ok (.iconst 1, 1) := by decide +kernel
theorem dX9_readRow_71 : decode cX9_readRow 71 = .ok (.goto 4, 3) := by decide +kernel
theorem dX9_readRow_74 : decode cX9_readRow 74 = .ok (.iconst 0, 1) := by decide +kernel
theorem dX9_readRow_75 : decode cX9_readRow 75 = .ok (.istore 9, 2) := by decide +kernel
theorem dX9_readRow_77 : decode cX9_readRow 77 = .ok (.aload_n 0, 1) := by decide +kernel
theorem dX9_readRow_78 : decode cX9_readRow 78 = .ok (.getfield 264, 3) := by decide +kernel
theorem dX9_readRow_81 : decode cX9_readRow 81 = .ok (.ifCond .ne 17, 3) := by decide +kernel
theorem dX9_readRow_84 : decode cX9_readRow 84 = .ok (.iload 9, 2) := by decide +kernel
theorem dX9_readRow_86 : decode cX9_readRow 86 = .ok (.ifCond .ne 12, 3) := by decide +kernel
theorem dX9_readRow_89 : decode cX9_readRow 89 = .ok (.aload_n 0, 1) := by decide +kernel
theorem dX9_readRow_90 : decode cX9_readRow 90 = .ok (.iconst 2, 1) := by decide +kernel
theorem dX9_readRow_91 : decode cX9_readRow 91 = .ok (.lload 6, 2) := by decide +kernel
theorem dX9_readRow_93 : decode cX9_readRow 93 = .ok (.invokevirtual 273, 3) := by decide +kernel
theorem dX9_readRow_96 : decode cX9_readRow 96 = .ok (.istore 10, 2) := by decide +kernel
theorem dX9_readRow_98 : decode cX9_readRow 98 = .ok (.aload_n 0, 1) := by decide +kernel
theorem dX9_readRow_99 : decode cX9_readRow 99 = .ok (.iconst 1, 1) := by decide +kernel
theorem dX9_readRow_100 : decode cX9_readRow 100 = .ok (.invokevirtual 277, 3) := by decide +kernel
theorem dX9_readRow_103 : decode cX9_readRow 103 = .ok (.lstore 10, 2) := by decide +kernel
theorem dX9_readRow_105 : decode cX9_readRow 105 = .ok (.aload_n 0, 1) := by decide +kernel
theorem dX9_readRow_106 : decode cX9_readRow 106 = .ok (.getfield 267, 3) := by decide +kernel
theorem dX9_readRow_109 : decode cX9_readRow 109 = .ok (.lstore 6, 2) := by decide +kernel
theorem dX9_readRow_111 : decode cX9_readRow 111 = .ok (.lload 10, 2) := by decide +kernel
theorem dX9_readRow_113 : decode cX9_readRow 113 = .ok (.lconst 1, 1) := by decide +kernel
theorem dX9_readRow_114 : decode cX9_readRow 114 = .ok (.lcmp, 1) := by decide +kernel
theorem dX9_readRow_115 : decode cX9_readRow 115 = .ok (.ifCond .ne 11, 3) := by decide +kernel
theorem dX9_readRow_118 : decode cX9_readRow 118 = .ok (.lconst 1, 1) := by decide +kernel
theorem dX9_readRow_119 : decode cX9_readRow 119 = .ok (.aload_n 0, 1) := by decide +kernel
theorem dX9_readRow_120 : decode cX9_readRow 120 = .ok (.invokevirtual 347, 3) := by decide +kernel
theorem dX9_readRow_123 : decode cX9_readRow 123 = .ok (.ladd, 1) := by decide +kernel
theorem dX9_readRow_124 : decode cX9_readRow 124 = .ok (.lstore 10, 2) := by decide +kernel
theorem dX9_readRow_126 : decode cX9_readRow 126 = .ok (.aload_n 0, 1) := by decide +kernel
theorem dX9_readRow_127 : decode cX9_readRow 127 = .ok (.getfield 264, 3) := by decide +kernel
theorem dX9_readRow_130 : decode cX9_readRow 130 = .ok (.ifCond .ne 20, 3) := by decide +kernel
theorem dX9_readRow_133 : decode cX9_readRow 133 = .ok (.lload 10, 2) := by decide +kernel
theorem dX9_readRow_135 : decode cX9_readRow 135 = .ok (.iload_n 3, 1) := by decide +kernel
theorem dX9_readRow_136 : decode cX9_readRow 136 = .ok (.i2l, 1) := by decide +kernel
theorem dX9_readRow_137 : decode cX9_readRow 137 = .ok (.lcmp, 1) := by decide +kernel
theorem dX9_readRow_138 : decode cX9_readRow 138 = .ok (.ifCond .lt 12, 3) := by decide +kernel
theorem dX9_readRow_141 : decode cX9_readRow 141 = .ok (.aload_n 0, 1) := by decide +kernel
theorem dX9_readRow_142 : decode cX9_readRow 142 = .ok (.iconst 2, 1) := by decide +kernel
theorem dX9_readRow_143 : decode cX9_readRow 143 = .ok (.lload 6, 2) := by decide +kernel
theorem dX9_readRow_145 : decode cX9_readRow 145 = .ok (.invokevirtual 273, 3) := by decide +kernel
theorem dX9_readRow_148 : decode cX9_readRow 148 = .ok (.istore 12, 2) := by decide +kernel
theorem dX9_readRow_150 : decode cX9_readRow 150 = .ok (.aload_n 0, 1) := by decide +kernel
theorem dX9_readRow_151 : decode cX9_readRow 151 = .ok (.getfield 264, 3) := by decide +kernel
theorem dX9_readRow_154 : decode cX9_readRow 154 = .ok (.ifCond .le 4, 3) := by decide +kernel
theorem dX9_readRow_157 : decode cX9_readRow 157 = .ok (.return_, 1) := by decide +kernel
theorem dX9_readRow_158 : decode cX9_readRow 158 = .ok (.iload_n 3, 1) := by decide +kernel
theorem dX9_readRow_159 : decode cX9_readRow 159 = .ok (.lload 10, 2) := by decide +kernel
theorem dX9_readRow_161 : decode cX9_readRow 161 = .ok (.l2i, 1) := by decide +kernel
theorem dX9_readRow_162 : decode cX9_readRow 162 = .ok (.isub, 1) := by decide +kernel
theorem dX9_readRow_163 : decode cX9_readRow 163 = .ok (.istore 12, 2) := by decide +kernel
theorem dX9_readRow_165 : decode cX9_readRow 165 = .ok (.iload 8, 2) := by decide +kernel
theorem dX9_readRow_167 : decode cX9_readRow 167 = .ok (.ifCond .ne 7, 3) := by decide +kernel
theorem dX9_readRow_170 : decode cX9_readRow 170 = .ok (.iconst 1, 1) := by decide +kernel
theorem dX9_readRow_171 : decode cX9_readRow 171 = .ok (.goto 18, 3) := by decide +kernel
theorem dX9_readRow_174 : decode cX9_readRow 174 = .ok (.iload 8, 2) := by decide +kernel
theorem dX9_readRow_176 : decode cX9_readRow 176 = .ok (.iconst 1, 1) := by decide +kernel
theorem dX9_readRow_177 : decode cX9_readRow 177 = .ok (.if_icmp .ne 7, 3) := by decide +kernel
theorem dX9_readRow_180 : decode cX9_readRow 180 = .ok (.iload_n 2, 1) := by decide +kernel
theorem dX9_readRow_181 : decode cX9_readRow 181 = .ok (.goto 8, 3) := by decide +kernel
theorem dX9_readRow_184 : decode cX9_readRow 184 = .ok (.iload 8, 2) := by decide +kernel
theorem dX9_readRow_186 : decode cX9_readRow 186 = .ok (.invokestatic 117, 3) := by decide +kernel
theorem dX9_readRow_189 : decode cX9_readRow 189 = .ok (.istore 13, 2) := by decide +kernel
theorem dX9_readRow_191 : decode cX9_readRow 191 = .ok (.iconst 0, 1) := by decide +kernel
theorem dX9_readRow_192 : decode cX9_readRow 192 = .ok (.istore 14, 2) := by decide +kernel
theorem dX9_readRow_194 : decode cX9_readRow 194 = .ok (.iload 14, 2) := by decide +kernel
theorem dX9_readRow_196 : decode cX9_readRow 196 = .ok (.iload 13, 2) := by decide +kernel
theorem dX9_readRow_198 : decode cX9_readRow 198 = .ok (.if_icmp .ge 28, 3) := by decide +kernel
theorem dX9_readRow_201 : decode cX9_readRow 201 = .ok (.aload_n 0, 1) := by decide +kernel
theorem dX9_readRow_202 : decode cX9_readRow 202 = .ok (.getfield 64, 3) := by decide +kernel
theorem dX9_readRow_205 : decode cX9_readRow 205 = .ok (.sipush 256, 3) := by decide +kernel
theorem dX9_readRow_208 : decode cX9_readRow 208 = .ok (.iload_n 1, 1) := by decide +kernel
theorem dX9_readRow_209 : decode cX9_readRow 209 = .ok (.imul, 1) := by decide +kernel
theorem dX9_readRow_210 : decode cX9_readRow 210 = .ok (.iload 14, 2) := by decide +kernel
theorem dX9_readRow_212 : decode cX9_readRow 212 = .ok (.iadd, 1) := by decide +kernel
theorem dX9_readRow_213 : decode cX9_readRow 213 = .ok (.aload_n 0, 1) := by decide +kernel
theorem dX9_readRow_214 : decode cX9_readRow 214 = .ok (.iload 12, 2) := by decide +kernel
theorem dX9_readRow_216 : decode cX9_readRow 216 = .ok (.invokevirtual 351, 3) := by decide +kernel
theorem dX9_readRow_219 : decode cX9_readRow 219 = .ok (.lastore, 1) := by decide +kernel
theorem dX9_readRow_220 : decode cX9_readRow 220 = .ok (.iinc 14 1, 3) := by decide +kernel
theorem dX9_readRow_223 : decode cX9_readRow 223 = .ok (.goto (-29), 3) := by decide +kernel
theorem dX9_readRow_226 : decode cX9_readRow 226 = .ok (.iconst 1, 1) := by decide +kernel
theorem dX9_readRow_227 : decode cX9_readRow 227 = .ok (.istore 14, 2) := by decide +kernel
theorem dX9_readRow_229 : decode cX9_readRow 229 = .ok (.iload 14, 2) := by decide +kernel
theorem dX9_readRow_231 : decode cX9_readRow 231 = .ok (.iload_n 2, 1) := by decide +kernel
theorem dX9_readRow_232 : decode cX9_readRow 232 = .ok (.if_icmp .ge 37, 3) := by decide +kernel
theorem dX9_readRow_235 : decode cX9_readRow 235 = .ok (.iload 8, 2) := by decide +kernel
theorem dX9_readRow_237 : decode cX9_readRow 237 = .ok (.ifCond .ne 32, 3) := by decide +kernel
theorem dX9_readRow_240 : decode cX9_readRow 240 = .ok (.aload_n 0, 1) := by decide +kernel
theorem dX9_readRow_241 : decode cX9_readRow 241 = .ok (.getfield 64, 3) := by decide +kernel
theorem dX9_readRow_244 : decode cX9_readRow 244 = .ok (.sipush 256, 3) := by decide +kernel
theorem dX9_readRow_247 : decode cX9_readRow 247 = .ok (.iload_n 1, 1) := by decide +kernel
theorem dX9_readRow_248 : decode cX9_readRow 248 = .ok (.imul, 1) := by decide +kernel
theorem dX9_readRow_249 : decode cX9_readRow 249 = .ok (.iload 14, 2) := by decide +kernel
theorem dX9_readRow_251 : decode cX9_readRow 251 = .ok (.iadd, 1) := by decide +kernel
theorem dX9_readRow_252 : decode cX9_readRow 252 = .ok (.aload_n 0, 1) := by decide +kernel
theorem dX9_readRow_253 : decode cX9_readRow 253 = .ok (.getfield 64, 3) := by decide +kernel
theorem dX9_readRow_256 : decode cX9_readRow 256 = .ok (.sipush 256, 3) := by decide +kernel
theorem dX9_readRow_259 : decode cX9_readRow 259 = .ok (.iload_n 1, 1) := by decide +kernel
theorem dX9_readRow_260 : decode cX9_readRow 260 = .ok (.imul, 1) := by decide +kernel
theorem dX9_readRow_261 : decode cX9_readRow 261 = .ok (.laload, 1) := by decide +kernel
theorem dX9_readRow_262 : decode cX9_readRow 262 = .ok (.lastore, 1) := by decide +kernel
theorem dX9_readRow_263 : decode cX9_readRow 263 = .ok (.iinc 14 1, 3) := by decide +kernel
theorem dX9_readRow_266 : decode cX9_readRow 266 = .ok (.goto (-37), 3) := by decide +kernel
theorem dX9_readRow_269 : decode cX9_readRow 269 = .ok (.iload 8, 2) := by decide +kernel
theorem dX9_readRow_271 : decode cX9_readRow 271 = .ok (.bipush 7, 2) := by decide +kernel
theorem dX9_readRow_273 : decode cX9_readRow 273 = .ok (.if_icmp .le 13, 3) := by decide +kernel
theorem dX9_readRow_276 : decode cX9_readRow 276 = .ok (.aload_n 0, 1) := by decide +kernel
theorem dX9_readRow_277 : decode cX9_readRow 277 = .ok (.iload_n 1, 1) := by decide +kernel
theorem dX9_readRow_278 : decode cX9_readRow 278 = .ok (.iload_n 2, 1) := by decide +kernel
theorem dX9_readRow_279 : decode cX9_readRow 279 = .ok (.iload 12, 2) := by decide +kernel
theorem dX9_readRow_281 : decode cX9_readRow 281 = .ok (.iload 8, 2) := by decide +kernel
theorem dX9_readRow_283 : decode cX9_readRow 283 = .ok (.invokevirtual 354, 3) := by decide +kernel
theorem dX9_readRow_286 : decode cX9_readRow 286 = .ok (.iconst 0, 1) := by decide +kernel
theorem dX9_readRow_287 : decode cX9_readRow 287 = .ok (.istore 14, 2) := by decide +kernel
theorem dX9_readRow_289 : decode cX9_readRow 289 = .ok (.iload 14, 2) := by decide +kernel
theorem dX9_readRow_291 : decode cX9_readRow 291 = .ok (.iload_n 2, 1) := by decide +kernel
theorem dX9_readRow_292 : decode cX9_readRow 292 = .ok (.if_icmp .ge 28, 3) := by decide +kernel
theorem dX9_readRow_295 : decode cX9_readRow 295 = .ok (.aload_n 0, 1) := by decide +kernel
theorem dX9_readRow_296 : decode cX9_readRow 296 = .ok (.getfield 64, 3) := by decide +kernel
theorem dX9_readRow_299 : decode cX9_readRow 299 = .ok (.sipush 256, 3) := by decide +kernel
theorem dX9_readRow_302 : decode cX9_readRow 302 = .ok (.iload_n 1, 1) := by decide +kernel
theorem dX9_readRow_303 : decode cX9_readRow 303 = .ok (.imul, 1) := by decide +kernel
theorem dX9_readRow_304 : decode cX9_readRow 304 = .ok (.iload 14, 2) := by decide +kernel
theorem dX9_readRow_306 : decode cX9_readRow 306 = .ok (.iadd, 1) := by decide +kernel
theorem dX9_readRow_307 : decode cX9_readRow 307 = .ok (.dup2, 1) := by decide +kernel
theorem dX9_readRow_308 : decode cX9_readRow 308 = .ok (.laload, 1) := by decide +kernel
theorem dX9_readRow_309 : decode cX9_readRow 309 = .ok (.lload 10, 2) := by decide +kernel
theorem dX9_readRow_311 : decode cX9_readRow 311 = .ok (.l2i, 1) := by decide +kernel
theorem dX9_readRow_312 : decode cX9_readRow 312 = .ok (.lshl, 1) := by decide +kernel
theorem dX9_readRow_313 : decode cX9_readRow 313 = .ok (.lastore, 1) := by decide +kernel
theorem dX9_readRow_314 : decode cX9_readRow 314 = .ok (.iinc 14 1, 3) := by decide +kernel
theorem dX9_readRow_317 : decode cX9_readRow 317 = .ok (.goto (-28), 3) := by decide +kernel
theorem dX9_readRow_320 : decode cX9_readRow 320 = .ok (.return_, 1) := by decide +kernel
theorem dX9_readWeights_0 : decode cX9_readWeights 0 = .ok (.aload_n 0, 1) := by decide +kernel
theorem dX9_readWeights_1 : decode cX9_readWeights 1 = .ok (.iconst 4, 1) := by decide +kernel
theorem dX9_readWeights_2 : decode cX9_readWeights 2 = .ok (.lconst 0, 1) := by decide +kernel
theorem dX9_readWeights_3 : decode cX9_readWeights 3 = .ok (.ldc2_w 92, 3) := by decide +kernel
theorem dX9_readWeights_6 : decode cX9_readWeights 6 = .ok (.invokevirtual 280, 3) := by decide +kernel
theorem dX9_readWeights_9 : decode cX9_readWeights 9 = .ok (.l2i, 1) := by decide +kernel
theorem dX9_readWeights_10 : decode cX9_readWeights 10 = .ok (.iconst 1, 1) := by decide +kernel
theorem dX9_readWeights_11 : decode cX9_readWeights 11 = .ok (.iadd, 1) := by decide +kernel
theorem dX9_readWeights_12 : decode cX9_readWeights 12 = .ok (.istore_n 2, 1) := by decide +kernel
theorem dX9_readWeights_13 : decode cX9_readWeights 13 = .ok (.aload_n 0, 1) := by decide +kernel
theorem dX9_readWeights_14 : decode cX9_readWeights 14 = .ok (.aload_n 0, 1) := by decide +kernel
theorem dX9_readWeights_15 : decode cX9_readWeights 15 = .ok (.iconst 5, 1) := by decide +kernel
theorem dX9_readWeights_16 : decode cX9_readWeights 16 = .ok (.lconst 0, 1) := by decide +kernel
theorem dX9_readWeights_17 : decode cX9_readWeights 17 = .ok (.ldc2_w 190, 3) := by decide +kernel
theorem dX9_readWeights_20 : decode cX9_readWeights 20 = .ok (.invokevirtual 280, 3) := by decide +kernel
theorem dX9_readWeights_23 : decode cX9_readWeights 23 = .ok (.l2i, 1) := by decide +kernel
theorem dX9_readWeights_24 : decode cX9_readWeights 24 = .ok (.putfield 358, 3) := by decide +kernel
theorem dX9_readWeights_27 : decode cX9_readWeights 27 = .ok (.iconst 0, 1) := by decide +kernel
theorem dX9_readWeights_28 : decode cX9_readWeights 28 = .ok (.istore_n 3, 1) := by decide +kernel
theorem dX9_readWeights_29 : decode cX9_readWeights 29 = .ok (.iload_n 3, 1) := by decide +kernel
theorem dX9_readWeights_30 : decode cX9_readWeights 30 = .ok (.iload_n 1, 1) := by decide +kernel
theorem dX9_readWeights_31 : decode cX9_readWeights 31 = .ok (.if_icmp .ge 21, 3) := by decide +kernel
theorem dX9_readWeights_34 : decode cX9_readWeights 34 = .ok (.aload_n 0, 1) := by decide +kernel
theorem dX9_readWeights_35 : decode cX9_readWeights 35 = .ok (.getfield 67, 3) := by decide +kernel
theorem dX9_readWeights_38 : decode cX9_readWeights 38 = .ok (.iload_n 3, 1) := by decide +kernel
theorem dX9_readWeights_39 : decode cX9_readWeights 39 = .ok (.aload_n 0, 1) := by decide +kernel
theorem dX9_readWeights_40 : decode cX9_readWeights 40 = .ok (.iload_n 2, 1) := by decide +kernel
theorem dX9_readWeights_41 : decode cX9_readWeights 41 = .ok (.invokevirtual 351, 3) := by decide +kernel
theorem dX9_readWeights_44 : decode cX9_readWeights 44 = .ok (.l2i, 1) := by decide +kernel
theorem dX9_readWeights_45 : decode cX9_readWeights 45 = .ok (.iastore, 1) := by decide +kernel
theorem dX9_readWeights_46 : decode cX9_readWeights 46 = .ok (.iinc 3 1, 3) := by decide +kernel
theorem dX9_readWeights_49 : decode cX9_readWeights 49 = .ok (.goto (-20), 3) := by decide +kernel
theorem dX9_readWeights_52 : decode cX9_readWeights 52 = .ok (.return_, 1) := by decide +kernel
theorem dX9_foretold_0 : decode cX9_foretold 0 = .ok (.iload_n 3, 1) := by decide +kernel
theorem dX9_foretold_1 : decode cX9_foretold 1 = .ok (.bipush 32, 2) := by decide +kernel
theorem dX9_foretold_3 : decode cX9_foretold 3 = .ok (.if_icmp .ge 68, 3) := by decide +kernel
theorem dX9_foretold_6 : decode cX9_foretold 6 = .ok (.iconst 0, 1) := by decide +kernel
theorem dX9_foretold_7 : decode cX9_foretold 7 = .ok (.istore 4, 2) := by decide +kernel
theorem dX9_foretold_9 : decode cX9_foretold 9 = .ok (.iload 4, 2) := by decide +kernel
theorem dX9_foretold_11 : decode cX9_foretold 11 = .ok (.iconst 4, 1) := by decide +kernel
theorem dX9_foretold_12 : decode cX9_foretold 12 = .ok (.if_icmp .ge 45, 3) := by decide +kernel
theorem dX9_foretold_15 : decode cX9_foretold 15 = .ok (.aload_n 0, 1) := by decide +kernel
theorem dX9_foretold_16 : decode cX9_foretold 16 = .ok (.getfield 55, 3) := by decide +kernel
theorem dX9_foretold_19 : decode cX9_foretold 19 = .ok (.iload 4, 2) := by decide +kernel
theorem dX9_foretold_21 : decode cX9_foretold 21 = .ok (.iload_n 2, 1) := by decide +kernel
theorem dX9_foretold_22 : decode cX9_foretold 22 = .ok (.iload 4, 2) := by decide +kernel
theorem dX9_foretold_24 : decode cX9_foretold 24 = .ok (.iadd, 1) := by decide +kernel
theorem dX9_foretold_25 : decode cX9_foretold 25 = .ok (.iconst 4, 1) := by decide +kernel
theorem dX9_foretold_26 : decode cX9_foretold 26 = .ok (.if_icmp .lt 23, 3) := by decide +kernel
theorem dX9_foretold_29 : decode cX9_foretold 29 = .ok (.aload_n 0, 1) := by decide +kernel
theorem dX9_foretold_30 : decode cX9_foretold 30 = .ok (.getfield 64, 3) := by decide +kernel
theorem dX9_foretold_33 : decode cX9_foretold 33 = .ok (.sipush 256, 3) := by decide +kernel
theorem dX9_foretold_36 : decode cX9_foretold 36 = .ok (.iload_n 1, 1) := by decide +kernel
theorem dX9_foretold_37 : decode cX9_foretold 37 = .ok (.imul, 1) := by decide +kernel
theorem dX9_foretold_38 : decode cX9_foretold 38 = .ok (.iload_n 2, 1) := by decide +kernel
theorem dX9_foretold_39 : decode cX9_foretold 39 = .ok (.iadd, 1) := by decide +kernel
theorem dX9_foretold_40 : decode cX9_foretold 40 = .ok (.iconst 4, 1) := by decide +kernel
theorem dX9_foretold_41 : decode cX9_foretold 41 = .ok (.isub, 1) := by decide +kernel
theorem dX9_foretold_42 : decode cX9_foretold 42 = .ok (.iload 4, 2) := by decide +kernel
theorem dX9_foretold_44 : decode cX9_foretold 44 = .ok (.iadd, 1) := by decide +kernel
theorem dX9_foretold_45 : decode cX9_foretold 45 = .ok (.laload, 1) := by decide +kernel
theorem dX9_foretold_46 : decode cX9_foretold 46 = .ok (.goto 4, 3) := by decide +kernel
theorem dX9_foretold_49 : decode cX9_foretold 49 = .ok (.lconst 0, 1) := by decide +kernel
theorem dX9_foretold_50 : decode cX9_foretold 50 = .ok (.lastore, 1) := by decide +kernel
theorem dX9_foretold_51 : decode cX9_foretold 51 = .ok (.iinc 4 1, 3) := by decide +kernel
theorem dX9_foretold_54 : decode cX9_foretold 54 = .ok (.goto (-45), 3) := by decide +kernel
theorem dX9_foretold_57 : decode cX9_foretold 57 = .ok (.aload_n 0, 1) := by decide +kernel
theorem dX9_foretold_58 : decode cX9_foretold 58 = .ok (.aload_n 0, 1) := by decide +kernel
theorem dX9_foretold_59 : decode cX9_foretold 59 = .ok (.getfield 55, 3) := by decide +kernel
theorem dX9_foretold_62 : decode cX9_foretold 62 = .ok (.iconst 4, 1) := by decide +kernel
theorem dX9_foretold_63 : decode cX9_foretold 63 = .ok (.iload_n 3, 1) := by decide +kernel
theorem dX9_foretold_64 : decode cX9_foretold 64 = .ok (.bipush 8, 2) := by decide +kernel
theorem dX9_foretold_66 : decode cX9_foretold 66 = .ok (.isub, 1) := by decide +kernel
theorem dX9_foretold_67 : decode cX9_foretold 67 = .ok (.invokevirtual 125, 3) := by decide +kernel
theorem dX9_foretold_70 : decode cX9_foretold 70 = .ok (.lreturn, 1) := by decide +kernel
theorem dX9_foretold_71 : decode cX9_foretold 71 = .ok (.lconst 0, 1) := by decide +kernel
theorem dX9_foretold_72 : decode cX9_foretold 72 = .ok (.lstore 4, 2) := by decide +kernel
theorem dX9_foretold_74 : decode cX9_foretold 74 = .ok (.iconst 0, 1) := by decide +kernel
theorem dX9_foretold_75 : decode cX9_foretold 75 = .ok (.istore 6, 2) := by decide +kernel
theorem dX9_foretold_77 : decode cX9_foretold 77 = .ok (.iload 6, 2) := by decide +kernel
theorem dX9_foretold_79 : decode cX9_foretold 79 = .ok (.iload_n 3, 1) := by decide +kernel
theorem dX9_foretold_80 : decode cX9_foretold 80 = .ok (.invokestatic 117, 3) := by decide +kernel
theorem dX9_foretold_83 : decode cX9_foretold 83 = .ok (.if_icmp .ge 40, 3) := by decide +kernel
theorem dX9_foretold_86 : decode cX9_foretold 86 = .ok (.lload 4, 2) := by decide +kernel
theorem dX9_foretold_88 : decode cX9_foretold 88 = .ok (.aload_n 0, 1) := by decide +kernel
theorem dX9_foretold_89 : decode cX9_foretold 89 = .ok (.getfield 67, 3) := by decide +kernel
theorem dX9_foretold_92 : decode cX9_foretold 92 = .ok (.iload 6, 2) := by decide +kernel
theorem dX9_foretold_94 : decode cX9_foretold 94 = .ok (.iaload, 1) := by decide +kernel
theorem dX9_foretold_95 : decode cX9_foretold 95 = .ok (.i2l, 1) := by decide +kernel
theorem dX9_foretold_96 : decode cX9_foretold 96 = .ok (.aload_n 0, 1) := by decide +kernel
theorem dX9_foretold_97 : decode cX9_foretold 97 = .ok (.getfield 64, 3) := by decide +kernel
theorem dX9_foretold_100 : decode cX9_foretold 100 = .ok (.sipush 256, 3) := by decide +kernel
theorem dX9_foretold_103 : decode cX9_foretold 103 = .ok (.iload_n 1, 1) := by decide +kernel
theorem dX9_foretold_104 : decode cX9_foretold 104 = .ok (.imul, 1) := by decide +kernel
theorem dX9_foretold_105 : decode cX9_foretold 105 = .ok (.iload_n 2, 1) := by decide +kernel
theorem dX9_foretold_106 : decode cX9_foretold 106 = .ok (.iadd, 1) := by decide +kernel
theorem dX9_foretold_107 : decode cX9_foretold 107 = .ok (.iconst 1, 1) := by decide +kernel
theorem dX9_foretold_108 : decode cX9_foretold 108 = .ok (.isub, 1) := by decide +kernel
theorem dX9_foretold_109 : decode cX9_foretold 109 = .ok (.iload 6, 2) := by decide +kernel
theorem dX9_foretold_111 : decode cX9_foretold 111 = .ok (.isub, 1) := by decide +kernel
theorem dX9_foretold_112 : decode cX9_foretold 112 = .ok (.laload, 1) := by decide +kernel
theorem dX9_foretold_113 : decode cX9_foretold 113 = .ok (.lmul, 1) := by decide +kernel
theorem dX9_foretold_114 : decode cX9_foretold 114 = .ok (.ladd, 1) := by decide +kernel
theorem dX9_foretold_115 : decode cX9_foretold 115 = .ok (.lstore 4, 2) := by decide +kernel
theorem dX9_foretold_117 : decode cX9_foretold 117 = .ok (.iinc 6 1, 3) := by decide +kernel
theorem dX9_foretold_120 : decode cX9_foretold 120 = .ok (.goto (-43), 3) := by decide +kernel
theorem dX9_foretold_123 : decode cX9_foretold 123 = .ok (.lload 4, 2) := by decide +kernel
theorem dX9_foretold_125 : decode cX9_foretold 125 = .ok (.aload_n 0, 1) := by decide +kernel
theorem dX9_foretold_126 : decode cX9_foretold 126 = .ok (.getfield 358, 3) := by decide +kernel
theorem dX9_foretold_129 : decode cX9_foretold 129 = .ok (.lshr, 1) := by decide +kernel
theorem dX9_foretold_130 : decode cX9_foretold 130 = .ok (.lreturn, 1) := by decide +kernel
theorem dX9_readLeft_0 : decode cX9_readLeft 0 = .ok (.iload 4, 2) := by decide +kernel
theorem dX9_readLeft_2 : decode cX9_readLeft 2 = .ok (.invokestatic 117, 3) := by decide +kernel
theorem dX9_readLeft_5 : decode cX9_readLeft 5 = .ok (.istore 5, 2) := by decide +kernel
theorem dX9_readLeft_7 : decode cX9_readLeft 7 = .ok (.iload 4, 2) := by decide +kernel
theorem dX9_readLeft_9 : decode cX9_readLeft 9 = .ok (.bipush 31, 2) := by decide +kernel
theorem dX9_readLeft_11 : decode cX9_readLeft 11 = .ok (.if_icmp .le 9, 3) := by decide +kernel
theorem dX9_readLeft_14 : decode cX9_readLeft 14 = .ok (.aload_n 0, 1) := by decide +kernel
theorem dX9_readLeft_15 : decode cX9_readLeft 15 = .ok (.iload 5, 2) := by decide +kernel
theorem dX9_readLeft_17 : decode cX9_readLeft 17 = .ok (.invokevirtual 361, 3) := by decide +kernel
theorem dX9_readLeft_20 : decode cX9_readLeft 20 = .ok (.aload_n 0, 1) := by decide +kernel
theorem dX9_readLeft_21 : decode cX9_readLeft 21 = .ok (.iconst 2, 1) := by decide +kernel
theorem dX9_readLeft_22 : decode cX9_readLeft 22 = .ok (.lconst 0, 1) := by decide +kernel
theorem dX9_readLeft_23 : decode cX9_readLeft 23 = .ok (.lconst 1, 1) := by decide +kernel
theorem dX9_readLeft_24 : decode cX9_readLeft 24 = .ok (.invokevirtual 280, 3) := by decide +kernel
theorem dX9_readLeft_27 : decode cX9_readLeft 27 = .ok (.lconst 1, 1) := by decide +kernel
theorem dX9_readLeft_28 : decode cX9_readLeft 28 = .ok (.lcmp, 1) := by decide +kernel
theorem dX9_readLeft_29 : decode cX9_readLeft 29 = .ok (.ifCond .ne 7, 3) := by decide +kernel
theorem dX9_readLeft_32 : decode cX9_readLeft 32 = .ok (.iconst 5, 1) := by decide +kernel
theorem dX9_readLeft_33 : decode cX9_readLeft 33 = .ok (.goto 4, 3) := by decide +kernel
theorem dX9_readLeft_36 : decode cX9_readLeft 36 = .ok (.iconst 4, 1) := by decide +kernel
theorem dX9_readLeft_37 : decode cX9_readLeft 37 = .ok (.istore 6, 2) := by decide +kernel
theorem dX9_readLeft_39 : decode cX9_readLeft 39 = .ok (.aload_n 0, 1) := by decide +kernel
theorem dX9_readLeft_40 : decode cX9_readLeft 40 = .ok (.getfield 267, 3) := by decide +kernel
theorem dX9_readLeft_43 : decode cX9_readLeft 43 = .ok (.lstore 7, 2) := by decide +kernel
theorem dX9_readLeft_45 : decode cX9_readLeft 45 = .ok (.aload_n 0, 1) := by decide +kernel
theorem dX9_readLeft_46 : decode cX9_readLeft 46 = .ok (.iconst 4, 1) := by decide +kernel
theorem dX9_readLeft_47 : decode cX9_readLeft 47 = .ok (.invokevirtual 277, 3) := by decide +kernel
theorem dX9_readLeft_50 : decode cX9_readLeft 50 = .ok (.l2i, 1) := by decide +kernel
theorem dX9_readLeft_51 : decode cX9_readLeft 51 = .ok (.istore 9, 2) := by decide +kernel
theorem dX9_readLeft_53 : decode cX9_readLeft 53 = .ok (.aload_n 0, 1) := by decide +kernel
theorem dX9_readLeft_54 : decode cX9_readLeft 54 = .ok (.getfield 264, 3) := by decide +kernel
theorem dX9_readLeft_57 : decode cX9_readLeft 57 = .ok (.ifCond .ne 30, 3) := by decide +kernel
theorem dX9_readLeft_60 : decode cX9_readLeft 60 = .ok (.iload_n 2, 1) := by decide +kernel
theorem dX9_readLeft_61 : decode cX9_readLeft 61 = .ok (.iconst 1, 1) := by decide +kernel
theorem dX9_readLeft_62 : decode cX9_readLeft 62 = .ok (.iload 9, 2) := by decide +kernel
theorem dX9_readLeft_64 : decode cX9_readLeft 64 = .ok (.ishl, 1) := by decide +kernel
theorem dX9_readLeft_65 : decode cX9_readLeft 65 = .ok (.irem, 1) := by decide +kernel
theorem dX9_readLeft_66 : decode cX9_readLeft 66 = .ok (.ifCond .ne 12, 3) := by decide +kernel
theorem dX9_readLeft_69 : decode cX9_readLeft 69 = .ok (.iload_n 2, 1) := by decide +kernel
theorem dX9_readLeft_70 : decode cX9_readLeft 70 = .ok (.iload 9, 2) := by decide +kernel
theorem dX9_readLeft_72 : decode cX9_readLeft 72 = .ok (.ishr, 1) := by decide +kernel
theorem dX9_readLeft_73 : decode cX9_readLeft 73 = .ok (.iload 5, 2) := by decide +kernel
theorem dX9_readLeft_75 : decode cX9_readLeft 75 = .ok (.if_icmp .ge 12, 3) := by decide +kernel
theorem dX9_readLeft_78 : decode cX9_readLeft 78 = .ok (.aload_n 0, 1) := by decide +kernel
theorem dX9_readLeft_79 : decode cX9_readLeft 79 = .ok (.iconst 2, 1) := by decide +kernel
theorem dX9_readLeft_80 : decode cX9_readLeft 80 = .ok (.lload 7, 2) := by decide +kernel
theorem dX9_readLeft_82 : decode cX9_readLeft 82 = .ok (.invokevirtual 273, 3) := by decide +kernel
theorem dX9_readLeft_85 : decode cX9_readLeft 85 = .ok (.istore 10, 2) := by decide +kernel
theorem dX9_readLeft_87 : decode cX9_readLeft 87 = .ok (.iload_n 2, 1) := by decide +kernel
theorem dX9_readLeft_88 : decode cX9_readLeft 88 = .ok (.iload 9, 2) := by decide +kernel
theorem dX9_readLeft_90 : decode cX9_readLeft 90 = .ok (.ishr, 1) := by decide +kernel
theorem dX9_readLeft_91 : decode cX9_readLeft 91 = .ok (.istore 10, 2) := by decide +kernel
theorem dX9_readLeft_93 : decode cX9_readLeft 93 = .ok (.iconst 0, 1) := by decide +kernel
theorem dX9_readLeft_94 : decode cX9_readLeft 94 = .ok (.istore 11, 2) := by decide +kernel
theorem dX9_readLeft_96 : decode cX9_readLeft 96 = .ok (.iload 11, 2) := by decide +kernel
theorem dX9_readLeft_98 : decode cX9_readLeft 98 = .ok (.iconst 1, 1) := by decide +kernel
theorem dX9_readLeft_99 : decode cX9_readLeft 99 = .ok (.iload 9, 2) := by decide +kernel
theorem dX9_readLeft_101 : decode cX9_readLeft 101 = .ok (.ishl, 1) := by decide +kernel
theorem dX9_readLeft_102 : decode cX9_readLeft 102 = .ok (.if_icmp .ge 191, 3) := by decide +kernel
theorem dX9_readLeft_105 : decode cX9_readLeft 105 = .ok (.aload_n 0, 1) := by decide +kernel
theorem dX9_readLeft_106 : decode cX9_readLeft 106 = .ok (.getfield 264, 3) := by decide +kernel
theorem dX9_readLeft_109 : decode cX9_readLeft 109 = .ok (.ifCond .ne 184, 3) := by decide +kernel
theorem dX9_readLeft_112 : decode cX9_readLeft 112 = .ok (.aload_n 0, 1) := by decide +kernel
theorem dX9_readLeft_113 : decode cX9_readLeft 113 = .ok (.iload 6, 2) := by decide +kernel
theorem dX9_readLeft_115 : decode cX9_readLeft 115 = .ok (.invokevirtual 277, 3) := by decide +kernel
theorem dX9_readLeft_118 : decode cX9_readLeft 118 = .ok (.l2i, 1) := by decide +kernel
theorem dX9_readLeft_119 : decode cX9_readLeft 119 = .ok (.istore 12, 2) := by decide +kernel
theorem dX9_readLeft_121 : decode cX9_readLeft 121 = .ok (.iload 12, 2) := by decide +kernel
theorem dX9_readLeft_123 : decode cX9_readLeft 123 = .ok (.iconst 1, 1) := by decide +kernel
theorem dX9_readLeft_124 : decode cX9_readLeft 124 = .ok (.iload 6, 2) := by decide +kernel
theorem dX9_readLeft_126 : decode cX9_readLeft 126 = .ok (.ishl, 1) := by decide +kernel
theorem dX9_readLeft_127 : decode cX9_readLeft 127 = .ok (.iconst 1, 1) := by decide +kernel
theorem dX9_readLeft_128 : decode cX9_readLeft 128 = .ok (.isub, 1) := by decide +kernel
theorem dX9_readLeft_129 : decode cX9_readLeft 129 = .ok (.if_icmp .ne 7, 3) := by decide +kernel
theorem dX9_readLeft_132 : decode cX9_readLeft 132 = .ok (.iconst 1, 1) := by decide +kernel
theorem dX9_readLeft_133 : decode cX9_readLeft 133 = .ok (.goto 4, 3) := by decide +kernel
theorem dX9_readLeft_136 : decode cX9_readLeft 136 = .ok (.iconst 0, 1) := by decide +kernel
theorem dX9_readLeft_137 : decode cX9_readLeft 137 = .ok (.istore 13, 2) := by decide +kernel
theorem dX9_readLeft_139 : decode cX9_readLeft 139 = .ok (.iload 13, 2) := by decide +kernel
theorem dX9_readLeft_141 : decode cX9_readLeft 141 = .ok (.ifCond .eq 12, 3) := by decide +kernel
theorem dX9_readLeft_144 : decode cX9_readLeft 144 = .ok (.aload_n 0, 1) := by decide +kernel
theorem dX9_readLeft_145 : decode cX9_readLeft 145 = .ok (.iconst 5, 1) := by decide +kernel
theorem dX9_readLeft_146 : decode cX9_readLeft 146 = .ok (.invokevirtual 277, 3) := by decide +kernel
theorem dX9_readLeft_149 : decode cX9_readLeft 149 = .ok (.l2i, 1) := by decide +kernel
theorem dX9_readLeft_150 : decode cX9_readLeft 150 = .ok (.goto 4, 3) := by decide +kernel
theorem dX9_readLeft_153 : decode cX9_readLeft 153 = .ok (.iconst 0, 1) := by decide +kernel
theorem dX9_readLeft_154 : decode cX9_readLeft 154 = .ok (.istore 14, 2) := by decide +kernel
theorem dX9_readLeft_156 : decode cX9_readLeft 156 = .ok (.iload 11, 2) := by decide +kernel
theorem dX9_readLeft_158 : decode cX9_readLeft 158 = .ok (.ifCond .ne 8, 3) := by decide +kernel
theorem dX9_readLeft_161 : decode cX9_readLeft 161 = .ok (.iload 5, 2) := by decide +kernel
theorem dX9_readLeft_163 : decode cX9_readLeft 163 = .ok (.goto 8, 3) := by decide +kernel
theorem dX9_readLeft_166 : decode cX9_readLeft 166 = .ok (.iload 11, 2) := by decide +kernel
theorem dX9_readLeft_168 : decode cX9_readLeft 168 = .ok (.iload 10, 2) := by decide +kernel
theorem dX9_readLeft_170 : decode cX9_readLeft 170 = .ok (.imul, 1) := by decide +kernel
theorem dX9_readLeft_171 : decode cX9_readLeft 171 = .ok (.istore 15, 2) := by decide +kernel
theorem dX9_readLeft_173 : decode cX9_readLeft 173 = .ok (.iload 15, 2) := by decide +kernel
theorem dX9_readLeft_175 : decode cX9_readLeft 175 = .ok (.iload 11, 2) := by decide +kernel
theorem dX9_readLeft_177 : decode cX9_readLeft 177 = .ok (.iconst 1, 1) := by decide +kernel
theorem dX9_readLeft_178 : decode cX9_readLeft 178 = .ok (.iadd, 1) := by decide +kernel
theorem dX9_readLeft_179 : decode cX9_readLeft 179 = .ok (.iload 10, 2) := by decide +kernel
theorem dX9_readLeft_181 : decode cX9_readLeft 181 = .ok (.imul, 1) := by decide +kernel
theorem dX9_readLeft_182 : decode cX9_readLeft 182 = .ok (.if_icmp .ge 105, 3) := by decide +kernel
theorem dX9_readLeft_185 : decode cX9_readLeft 185 = .ok (.aload_n 0, 1) := by decide +kernel
theorem dX9_readLeft_186 : decode cX9_readLeft 186 = .ok (.getfield 264, 3) := by decide +kernel
theorem dX9_readLeft_189 : decode cX9_readLeft 189 = .ok (.ifCond .ne 98, 3) := by decide +kernel
theorem dX9_readLeft_192 : decode cX9_readLeft 192 = .ok (.aload_n 0, 1) := by decide +kernel
theorem dX9_readLeft_193 : decode cX9_readLeft 193 = .ok (.getfield 267, 3) := by decide +kernel
theorem dX9_readLeft_196 : decode cX9_readLeft 196 = .ok (.lstore 7, 2) := by decide +kernel
theorem dX9_readLeft_198 : decode cX9_readLeft 198 = .ok (.iload 13, 2) := by decide +kernel
theorem dX9_readLeft_200 : decode cX9_readLeft 200 = .ok (.ifCond .eq 12, 3) := by decide +kernel
theorem dX9_readLeft_203 : decode cX9_readLeft 203 = .ok (.aload_n 0, 1) := by decide +kernel
theorem dX9_readLeft_204 : decode cX9_readLeft 204 = .ok (.iload 14, 2) := by decide +kernel
theorem dX9_readLeft_206 : decode cX9_readLeft 206 = .ok (.invokevirtual 351, 3) := by decide +kernel
theorem dX9_readLeft_209 : decode cX9_readLeft 209 = .ok (.goto 9, 3) := by decide +kernel
theorem dX9_readLeft_212 : decode cX9_readLeft 212 = .ok (.aload_n 0, 1) := by decide +kernel
theorem dX9_readLeft_213 : decode cX9_readLeft 213 = .ok (.iload 12, 2) := by decide +kernel
theorem dX9_readLeft_215 : decode cX9_readLeft 215 = .ok (.invokevirtual 364, 3) := by decide +kernel
theorem dX9_readLeft_218 : decode cX9_readLeft 218 = .ok (.lstore 16, 2) := by decide +kernel
theorem dX9_readLeft_220 : decode cX9_readLeft 220 = .ok (.aload_n 0, 1) := by decide +kernel
theorem dX9_readLeft_221 : decode cX9_readLeft 221 = .ok (.getfield 64, 3) := by decide +kernel
theorem dX9_readLeft_224 : decode cX9_readLeft 224 = .ok (.sipush 256, 3) := by decide +kernel
theorem dX9_readLeft_227 : decode cX9_readLeft 227 = .ok (.iload_n 1, 1) := by decide +kernel
theorem dX9_readLeft_228 : decode cX9_readLeft 228 = .ok (.imul, 1) := by decide +kernel
theorem dX9_readLeft_229 : decode cX9_readLeft 229 = .ok (.iload 15, 2) := by decide +kernel
theorem dX9_readLeft_231 : decode cX9_readLeft 231 = .ok (.iadd, 1) := by decide +kernel
theorem dX9_readLeft_232 : decode cX9_readLeft 232 = .ok (.aload_n 0, 1) := by decide +kernel
theorem dX9_readLeft_233 : decode cX9_readLeft 233 = .ok (.iload_n 1, 1) := by decide +kernel
theorem dX9_readLeft_234 : decode cX9_readLeft 234 = .ok (.iload 15, 2) := by decide +kernel
theorem dX9_readLeft_236 : decode cX9_readLeft 236 = .ok (.iload 4, 2) := by decide +kernel
theorem dX9_readLeft_238 : decode cX9_readLeft 238 = .ok (.invokevirtual 367, 3) := by decide +kernel
theorem dX9_readLeft_241 : decode cX9_readLeft 241 = .ok (.lload 16, 2) := by decide +kernel
theorem dX9_readLeft_243 : decode cX9_readLeft 243 = .ok (.ladd, 1) := by decide +kernel
theorem dX9_readLeft_244 : decode cX9_readLeft 244 = .ok (.lastore, 1) := by decide +kernel
theorem dX9_readLeft_245 : decode cX9_readLeft 245 = .ok (.aload_n 0, 1) := by decide +kernel
theorem dX9_readLeft_246 : decode cX9_readLeft 246 = .ok (.getfield 264, 3) := by decide +kernel
theorem dX9_readLeft_249 : decode cX9_readLeft 249 = .ok (.ifCond .ne 32, 3) := by decide +kernel
theorem dX9_readLeft_252 : decode cX9_readLeft 252 = .ok (.aload_n 0, 1) := by decide +kernel
theorem dX9_readLeft_253 : decode cX9_readLeft 253 = .ok (.getfield 64, 3) := by decide +kernel
theorem dX9_readLeft_256 : decode cX9_readLeft 256 = .ok (.sipush 256, 3) := by decide +kernel
theorem dX9_readLeft_259 : decode cX9_readLeft 259 = .ok (.iload_n 1, 1) := by decide +kernel
theorem dX9_readLeft_260 : decode cX9_readLeft 260 = .ok (.imul, 1) := by decide +kernel
theorem dX9_readLeft_261 : decode cX9_readLeft 261 = .ok (.iload 15, 2) := by decide +kernel
theorem dX9_readLeft_263 : decode cX9_readLeft 263 = .ok (.iadd, 1) := by decide +kernel
theorem dX9_readLeft_264 : decode cX9_readLeft 264 = .ok (.laload, 1) := by decide +kernel
theorem dX9_readLeft_265 : decode cX9_readLeft 265 = .ok (.iload_n 3, 1) := by decide +kernel
theorem dX9_readLeft_266 : decode cX9_readLeft 266 = .ok (.invokestatic 104, 3) := by decide +kernel
theorem dX9_readLeft_269 : decode cX9_readLeft 269 = .ok (.ifCond .ne 12, 3) := by decide +kernel
theorem dX9_readLeft_272 : decode cX9_readLeft 272 = .ok (.aload_n 0, 1) := by decide +kernel
theorem dX9_readLeft_273 : decode cX9_readLeft 273 = .ok (.iconst 2, 1) := by decide +kernel
theorem dX9_readLeft_274 : decode cX9_readLeft 274 = .ok (.lload 7, 2) := by decide +kernel
theorem dX9_readLeft_276 : decode cX9_readLeft 276 = .ok (.invokevirtual 273, 3) := by decide +kernel
theorem dX9_readLeft_279 : decode cX9_readLeft 279 = .ok (.istore 18, 2) := by decide +kernel
theorem dX9_readLeft_281 : decode cX9_readLeft 281 = .ok (.iinc 15 1, 3) := by decide +kernel
theorem dX9_readLeft_284 : decode cX9_readLeft 284 = .ok (.goto (-111), 3) := by decide +kernel
theorem dX9_readLeft_287 : decode cX9_readLeft 287 = .ok (.iinc 11 1, 3) := by decide +kernel
theorem dX9_readLeft_290 : decode cX9_readLeft 290 = .ok (.goto (-194), 3) := by decide +kernel
theorem dX9_readLeft_293 : decode cX9_readLeft 293 = .ok (.return_, 1) := by decide +kernel
theorem dX9_unfolded_0 : decode cX9_unfolded 0 = .ok (.aload_n 0, 1) := by decide +kernel
theorem dX9_unfolded_1 : decode cX9_unfolded 1 = .ok (.invokevirtual 347, 3) := by decide +kernel
theorem dX9_unfolded_4 : decode cX9_unfolded 4 = .ok (.iload_n 1, 1) := by decide +kernel
theorem dX9_unfolded_5 : decode cX9_unfolded 5 = .ok (.lshl, 1) := by decide +kernel
theorem dX9_unfolded_6 : decode cX9_unfolded 6 = .ok (.lstore_n 2, 1) := by decide +kernel
theorem dX9_unfolded_7 : decode cX9_unfolded 7 = .ok (.lload_n 2, 1) := by decide +kernel
theorem dX9_unfolded_8 : decode cX9_unfolded 8 = .ok (.aload_n 0, 1) := by decide +kernel
theorem dX9_unfolded_9 : decode cX9_unfolded 9 = .ok (.iload_n 1, 1) := by decide +kernel
theorem dX9_unfolded_10 : decode cX9_unfolded 10 = .ok (.invokevirtual 277, 3) := by decide +kernel
theorem dX9_unfolded_13 : decode cX9_unfolded 13 = .ok (.lor, 1) := by decide +kernel
theorem dX9_unfolded_14 : decode cX9_unfolded 14 = .ok (.lstore_n 2, 1) := by decide +kernel
theorem dX9_unfolded_15 : decode cX9_unfolded 15 = .ok (.lload_n 2, 1) := by decide +kernel
theorem dX9_unfolded_16 : decode cX9_unfolded 16 = .ok (.ldc2_w 111, 3) := by decide +kernel
theorem dX9_unfolded_19 : decode cX9_unfolded 19 = .ok (.lrem, 1) := by decide +kernel
theorem dX9_unfolded_20 : decode cX9_unfolded 20 = .ok (.lconst 0, 1) := by decide +kernel
theorem dX9_unfolded_21 : decode cX9_unfolded 21 = .ok (.lcmp, 1) := by decide +kernel
theorem dX9_unfolded_22 : decode cX9_unfolded 22 = .ok (.ifCond .ne 11, 3) := by decide +kernel
theorem dX9_unfolded_25 : decode cX9_unfolded 25 = .ok (.lload_n 2, 1) := by decide +kernel
theorem dX9_unfolded_26 : decode cX9_unfolded 26 = .ok (.ldc2_w 111, 3) := by decide +kernel
theorem dX9_unfolded_29 : decode cX9_unfolded 29 = .ok (.ldiv, 1) := by decide +kernel
theorem dX9_unfolded_30 : decode cX9_unfolded 30 = .ok (.goto 11, 3) := by decide +kernel
theorem dX9_unfolded_33 : decode cX9_unfolded 33 = .ok (.lload_n 2, 1) := by decide +kernel
theorem dX9_unfolded_34 : decode cX9_unfolded 34 = .ok (.ldc2_w 111, 3) := by decide +kernel
theorem dX9_unfolded_37 : decode cX9_unfolded 37 = .ok (.ldiv, 1) := by decide +kernel
theorem dX9_unfolded_38 : decode cX9_unfolded 38 = .ok (.lneg, 1) := by decide +kernel
theorem dX9_unfolded_39 : decode cX9_unfolded 39 = .ok (.lconst 1, 1) := by decide +kernel
theorem dX9_unfolded_40 : decode cX9_unfolded 40 = .ok (.lsub, 1) := by decide +kernel
theorem dX9_unfolded_41 : decode cX9_unfolded 41 = .ok (.lreturn, 1) := by decide +kernel
theorem dX9_read_0 : decode cX9_read 0 = .ok (.aload_n 0, 1) := by decide +kernel
theorem dX9_read_1 : decode cX9_read 1 = .ok (.iconst 0, 1) := by decide +kernel
theorem dX9_read_2 : decode cX9_read 2 = .ok (.putfield 70, 3) := by decide +kernel
theorem dX9_read_5 : decode cX9_read 5 = .ok (.aload_n 0, 1) := by decide +kernel
theorem dX9_read_6 : decode cX9_read 6 = .ok (.iconst 0, 1) := by decide +kernel
theorem dX9_read_7 : decode cX9_read 7 = .ok (.putfield 264, 3) := by decide +kernel
theorem dX9_read_10 : decode cX9_read 10 = .ok (.aload_n 0, 1) := by decide +kernel
theorem dX9_read_11 : decode cX9_read 11 = .ok (.iconst (-1), 1) := by decide +kernel
theorem dX9_read_12 : decode cX9_read 12 = .ok (.putfield 52, 3) := by decide +kernel
theorem dX9_read_15 : decode cX9_read 15 = .ok (.aload_n 0, 1) := by decide +kernel
theorem dX9_read_16 : decode cX9_read 16 = .ok (.lconst 0, 1) := by decide +kernel
theorem dX9_read_17 : decode cX9_read 17 = .ok (.putfield 267, 3) := by decide +kernel
theorem dX9_read_20 : decode cX9_read 20 = .ok (.aload_n 0, 1) := by decide +kernel
theorem dX9_read_21 : decode cX9_read 21 = .ok (.ldc2_w 73, 3) := by decide +kernel
theorem dX9_read_24 : decode cX9_read 24 = .ok (.aload_n 0, 1) := by decide +kernel
theorem dX9_read_25 : decode cX9_read 25 = .ok (.getfield 259, 3) := by decide +kernel
theorem dX9_read_28 : decode cX9_read 28 = .ok (.i2l, 1) := by decide +kernel
theorem dX9_read_29 : decode cX9_read 29 = .ok (.lmul, 1) := by decide +kernel
theorem dX9_read_30 : decode cX9_read 30 = .ok (.putfield 270, 3) := by decide +kernel
theorem dX9_read_33 : decode cX9_read 33 = .ok (.aload_n 0, 1) := by decide +kernel
theorem dX9_read_34 : decode cX9_read 34 = .ok (.iconst 0, 1) := by decide +kernel
theorem dX9_read_35 : decode cX9_read 35 = .ok (.putfield 259, 3) := by decide +kernel
theorem dX9_read_38 : decode cX9_read 38 = .ok (.aload_n 0, 1) := by decide +kernel
theorem dX9_read_39 : decode cX9_read 39 = .ok (.iconst 0, 1) := by decide +kernel
theorem dX9_read_40 : decode cX9_read 40 = .ok (.putfield 342, 3) := by decide +kernel
theorem dX9_read_43 : decode cX9_read 43 = .ok (.aload_n 0, 1) := by decide +kernel
theorem dX9_read_44 : decode cX9_read 44 = .ok (.invokevirtual 370, 3) := by decide +kernel
theorem dX9_read_47 : decode cX9_read 47 = .ok (.iconst 0, 1) := by decide +kernel
theorem dX9_read_48 : decode cX9_read 48 = .ok (.istore_n 1, 1) := by decide +kernel
theorem dX9_read_49 : decode cX9_read 49 = .ok (.lconst 0, 1) := by decide +kernel
theorem dX9_read_50 : decode cX9_read 50 = .ok (.lstore_n 2, 1) := by decide +kernel
theorem dX9_read_51 : decode cX9_read 51 = .ok (.lload_n 2, 1) := by decide +kernel
theorem dX9_read_52 : decode cX9_read 52 = .ok (.aload_n 0, 1) := by decide +kernel
theorem dX9_read_53 : decode cX9_read 53 = .ok (.getfield 298, 3) := by decide +kernel
theorem dX9_read_56 : decode cX9_read 56 = .ok (.lcmp, 1) := by decide +kernel
theorem dX9_read_57 : decode cX9_read 57 = .ok (.ifCond .ge 59, 3) := by decide +kernel
theorem dX9_read_60 : decode cX9_read 60 = .ok (.aload_n 0, 1) := by decide +kernel
theorem dX9_read_61 : decode cX9_read 61 = .ok (.getfield 264, 3) := by decide +kernel
theorem dX9_read_64 : decode cX9_read 64 = .ok (.ifCond .ne 52, 3) := by decide +kernel
theorem dX9_read_67 : decode cX9_read 67 = .ok (.aload_n 0, 1) := by decide +kernel
theorem dX9_read_68 : decode cX9_read 68 = .ok (.iload_n 1, 1) := by decide +kernel
theorem dX9_read_69 : decode cX9_read 69 = .ok (.aload_n 0, 1) := by decide +kernel
theorem dX9_read_70 : decode cX9_read 70 = .ok (.getfield 298, 3) := by decide +kernel
theorem dX9_read_73 : decode cX9_read 73 = .ok (.lload_n 2, 1) := by decide +kernel
theorem dX9_read_74 : decode cX9_read 74 = .ok (.lsub, 1) := by decide +kernel
theorem dX9_read_75 : decode cX9_read 75 = .ok (.aload_n 0, 1) := by decide +kernel
theorem dX9_read_76 : decode cX9_read 76 = .ok (.getfield 284, 3) := by decide +kernel
theorem dX9_read_79 : decode cX9_read 79 = .ok (.i2l, 1) := by decide +kernel
theorem dX9_read_80 : decode cX9_read 80 = .ok (.lcmp, 1) := by decide +kernel
theorem dX9_read_81 : decode cX9_read 81 = .ok (.ifCond .ge 12, 3) := by decide +kernel
theorem dX9_read_84 : decode cX9_read 84 = .ok (.aload_n 0, 1) := by decide +kernel
theorem dX9_read_85 : decode cX9_read 85 = .ok (.getfield 298, 3) := by decide +kernel
theorem dX9_read_88 : decode cX9_read 88 = .ok (.lload_n 2, 1) := by decide +kernel
theorem dX9_read_89 : decode cX9_read 89 = .ok (.lsub, 1) := by decide +kernel
theorem dX9_read_90 : decode cX9_read 90 = .ok (.goto 8, 3) := by decide +kernel
theorem dX9_read_93 : decode cX9_read 93 = .ok (.aload_n 0, 1) := by decide +kernel
theorem dX9_read_94 : decode cX9_read 94 = .ok (.getfield 284, 3) := by decide +kernel
theorem dX9_read_97 : decode cX9_read 97 = .ok (.i2l, 1) := by decide +kernel
theorem dX9_read_98 : decode cX9_read 98 = .ok (.l2i, 1) := by decide +kernel
theorem dX9_read_99 : decode cX9_read 99 = .ok (.invokevirtual 373, 3) := by decide +kernel
theorem dX9_read_102 : decode cX9_read 102 = .ok (.iinc 1 1, 3) := by decide +kernel
theorem dX9_read_105 : decode cX9_read 105 = .ok (.lload_n 2, 1) := by decide +kernel
theorem dX9_read_106 : decode cX9_read 106 = .ok (.aload_n 0, 1) := by decide +kernel
theorem dX9_read_107 : decode cX9_read 107 = .ok (.getfield 284, 3) := by decide +kernel
theorem dX9_read_110 : decode cX9_read 110 = .ok (.i2l, 1) := by decide +kernel
theorem dX9_read_111 : decode cX9_read 111 = .ok (.ladd, 1) := by decide +kernel
theorem dX9_read_112 : decode cX9_read 112 = .ok (.lstore_n 2, 1) := by decide +kernel
theorem dX9_read_113 : decode cX9_read 113 = .ok (.goto (-62), 3) := by decide +kernel
theorem dX9_read_116 : decode cX9_read 116 = .ok (.aload_n 0, 1) := by decide +kernel
theorem dX9_read_117 : decode cX9_read 117 = .ok (.getfield 264, 3) := by decide +kernel
theorem dX9_read_120 : decode cX9_read 120 = .ok (.ifCond .ne 25, 3) := by decide +kernel
theorem dX9_read_123 : decode cX9_read 123 = .ok (.aload_n 0, 1) := by decide +kernel
theorem dX9_read_124 : decode cX9_read 124 = .ok (.getfield 267, 3) := by decide +kernel
theorem dX9_read_127 : decode cX9_read 127 = .ok (.aload_n 0, 1) := by decide +kernel
theorem dX9_read_128 : decode cX9_read 128 = .ok (.getfield 270, 3) := by decide +kernel
theorem dX9_read_131 : decode cX9_read 131 = .ok (.lcmp, 1) := by decide +kernel
theorem dX9_read_132 : decode cX9_read 132 = .ok (.ifCond .ge 13, 3) := by decide +kernel
theorem dX9_read_135 : decode cX9_read 135 = .ok (.aload_n 0, 1) := by decide +kernel
theorem dX9_read_136 : decode cX9_read 136 = .ok (.iconst 2, 1) := by decide +kernel
theorem dX9_read_137 : decode cX9_read 137 = .ok (.aload_n 0, 1) := by decide +kernel
theorem dX9_read_138 : decode cX9_read 138 = .ok (.getfield 267, 3) := by decide +kernel
theorem dX9_read_141 : decode cX9_read 141 = .ok (.invokevirtual 273, 3) := by decide +kernel
theorem dX9_read_144 : decode cX9_read 144 = .ok (.istore_n 2, 1) := by decide +kernel
theorem dX9_read_145 : decode cX9_read 145 = .ok (.aload_n 0, 1) := by decide +kernel
theorem dX9_read_146 : decode cX9_read 146 = .ok (.aload_n 0, 1) := by decide +kernel
theorem dX9_read_147 : decode cX9_read 147 = .ok (.getfield 264, 3) := by decide +kernel
theorem dX9_read_150 : decode cX9_read 150 = .ok (.ifCond .le 7, 3) := by decide +kernel
theorem dX9_read_153 : decode cX9_read 153 = .ok (.iconst 1, 1) := by decide +kernel
theorem dX9_read_154 : decode cX9_read 154 = .ok (.goto 4, 3) := by decide +kernel
theorem dX9_read_157 : decode cX9_read 157 = .ok (.iconst 0, 1) := by decide +kernel
theorem dX9_read_158 : decode cX9_read 158 = .ok (.putfield 70, 3) := by decide +kernel
theorem dX9_read_161 : decode cX9_read 161 = .ok (.aload_n 0, 1) := by decide +kernel
theorem dX9_read_162 : decode cX9_read 162 = .ok (.getfield 70, 3) := by decide +kernel
theorem dX9_read_165 : decode cX9_read 165 = .ok (.ifCond .le 5, 3) := by decide +kernel
theorem dX9_read_168 : decode cX9_read 168 = .ok (.iconst 0, 1) := by decide +kernel
theorem dX9_read_169 : decode cX9_read 169 = .ok (.ireturn, 1) := by decide +kernel
theorem dX9_read_170 : decode cX9_read 170 = .ok (.aload_n 0, 1) := by decide +kernel
theorem dX9_read_171 : decode cX9_read 171 = .ok (.aload_n 0, 1) := by decide +kernel
theorem dX9_read_172 : decode cX9_read 172 = .ok (.getfield 290, 3) := by decide +kernel
theorem dX9_read_175 : decode cX9_read 175 = .ok (.putfield 7, 3) := by decide +kernel
theorem dX9_read_178 : decode cX9_read 178 = .ok (.aload_n 0, 1) := by decide +kernel
theorem dX9_read_179 : decode cX9_read 179 = .ok (.aload_n 0, 1) := by decide +kernel
theorem dX9_read_180 : decode cX9_read 180 = .ok (.getfield 295, 3) := by decide +kernel
theorem dX9_read_183 : decode cX9_read 183 = .ok (.putfield 13, 3) := by decide +kernel
theorem dX9_read_186 : decode cX9_read 186 = .ok (.aload_n 0, 1) := by decide +kernel
theorem dX9_read_187 : decode cX9_read 187 = .ok (.aload_n 0, 1) := by decide +kernel
theorem dX9_read_188 : decode cX9_read 188 = .ok (.getfield 284, 3) := by decide +kernel
theorem dX9_read_191 : decode cX9_read 191 = .ok (.putfield 16, 3) := by decide +kernel
theorem dX9_read_194 : decode cX9_read 194 = .ok (.aload_n 0, 1) := by decide +kernel
theorem dX9_read_195 : decode cX9_read 195 = .ok (.aload_n 0, 1) := by decide +kernel
theorem dX9_read_196 : decode cX9_read 196 = .ok (.getfield 287, 3) := by decide +kernel
theorem dX9_read_199 : decode cX9_read 199 = .ok (.putfield 20, 3) := by decide +kernel
theorem dX9_read_202 : decode cX9_read 202 = .ok (.aload_n 0, 1) := by decide +kernel
theorem dX9_read_203 : decode cX9_read 203 = .ok (.aload_n 0, 1) := by decide +kernel
theorem dX9_read_204 : decode cX9_read 204 = .ok (.getfield 342, 3) := by decide +kernel
theorem dX9_read_207 : decode cX9_read 207 = .ok (.putfield 89, 3) := by decide +kernel
theorem dX9_read_210 : decode cX9_read 210 = .ok (.iconst 0, 1) := by decide +kernel
theorem dX9_read_211 : decode cX9_read 211 = .ok (.istore_n 2, 1) := by decide +kernel
theorem dX9_read_212 : decode cX9_read 212 = .ok (.iload_n 2, 1) := by decide +kernel
theorem dX9_read_213 : decode cX9_read 213 = .ok (.aload_n 0, 1) := by decide +kernel
theorem dX9_read_214 : decode cX9_read 214 = .ok (.getfield 342, 3) := by decide +kernel
theorem dX9_read_217 : decode cX9_read 217 = .ok (.if_icmp .ge 21, 3) := by decide +kernel
theorem dX9_read_220 : decode cX9_read 220 = .ok (.aload_n 0, 1) := by decide +kernel
theorem dX9_read_221 : decode cX9_read 221 = .ok (.getfield 27, 3) := by decide +kernel
theorem dX9_read_224 : decode cX9_read 224 = .ok (.iload_n 2, 1) := by decide +kernel
theorem dX9_read_225 : decode cX9_read 225 = .ok (.aload_n 0, 1) := by decide +kernel
theorem dX9_read_226 : decode cX9_read 226 = .ok (.getfield 61, 3) := by decide +kernel
theorem dX9_read_229 : decode cX9_read 229 = .ok (.iload_n 2, 1) := by decide +kernel
theorem dX9_read_230 : decode cX9_read 230 = .ok (.iaload, 1) := by decide +kernel
theorem dX9_read_231 : decode cX9_read 231 = .ok (.iastore, 1) := by decide +kernel
theorem dX9_read_232 : decode cX9_read 232 = .ok (.iinc 2 1, 3) := by decide +kernel
theorem dX9_read_235 : decode cX9_read 235 = .ok (.goto (-23), 3) := by decide +kernel
theorem dX9_read_238 : decode cX9_read 238 = .ok (.aload_n 0, 1) := by decide +kernel
theorem dX9_read_239 : decode cX9_read 239 = .ok (.getfield 89, 3) := by decide +kernel
theorem dX9_read_242 : decode cX9_read 242 = .ok (.ireturn, 1) := by decide +kernel
theorem dX9_fault_0 : decode cX9_fault 0 = .ok (.aload_n 0, 1) := by decide +kernel
theorem dX9_fault_1 : decode cX9_fault 1 = .ok (.iconst 0, 1) := by decide +kernel
theorem dX9_fault_2 : decode cX9_fault 2 = .ok (.putfield 70, 3) := by decide +kernel
theorem dX9_fault_5 : decode cX9_fault 5 = .ok (.aload_n 0, 1) := by decide +kernel
theorem dX9_fault_6 : decode cX9_fault 6 = .ok (.getfield 264, 3) := by decide +kernel
theorem dX9_fault_9 : decode cX9_fault 9 = .ok (.ireturn, 1) := by decide +kernel
theorem dX9_place_0 : decode cX9_place 0 = .ok (.aload_n 0, 1) := by decide +kernel
theorem dX9_place_1 : decode cX9_place 1 = .ok (.iconst 0, 1) := by decide +kernel
theorem dX9_place_2 : decode cX9_place 2 = .ok (.putfield 70, 3) := by decide +kernel
theorem dX9_place_5 : decode cX9_place 5 = .ok (.aload_n 0, 1) := by decide +kernel
theorem dX9_place_6 : decode cX9_place 6 = .ok (.getfield 52, 3) := by decide +kernel
theorem dX9_place_9 : decode cX9_place 9 = .ok (.ireturn, 1) := by decide +kernel
theorem dX9_sample_0 : decode cX9_sample 0 = .ok (.aload_n 0, 1) := by decide +kernel
theorem dX9_sample_1 : decode cX9_sample 1 = .ok (.iload_n 1, 1) := by decide +kernel
theorem dX9_sample_2 : decode cX9_sample 2 = .ok (.i2l, 1) := by decide +kernel
theorem dX9_sample_3 : decode cX9_sample 3 = .ok (.lconst 0, 1) := by decide +kernel
theorem dX9_sample_4 : decode cX9_sample 4 = .ok (.aload_n 0, 1) := by decide +kernel
theorem dX9_sample_5 : decode cX9_sample 5 = .ok (.getfield 89, 3) := by decide +kernel
theorem dX9_sample_8 : decode cX9_sample 8 = .ok (.iconst 1, 1) := by decide +kernel
theorem dX9_sample_9 : decode cX9_sample 9 = .ok (.isub, 1) := by decide +kernel
theorem dX9_sample_10 : decode cX9_sample 10 = .ok (.i2l, 1) := by decide +kernel
theorem dX9_sample_11 : decode cX9_sample 11 = .ok (.invokestatic 75, 3) := by decide +kernel
theorem dX9_sample_14 : decode cX9_sample 14 = .ok (.ifCond .eq 7, 3) := by decide +kernel
theorem dX9_sample_17 : decode cX9_sample 17 = .ok (.iconst 0, 1) := by decide +kernel
theorem dX9_sample_18 : decode cX9_sample 18 = .ok (.goto 4, 3) := by decide +kernel
theorem dX9_sample_21 : decode cX9_sample 21 = .ok (.iconst 1, 1) := by decide +kernel
theorem dX9_sample_22 : decode cX9_sample 22 = .ok (.putfield 70, 3) := by decide +kernel
theorem dX9_sample_25 : decode cX9_sample 25 = .ok (.aload_n 0, 1) := by decide +kernel
theorem dX9_sample_26 : decode cX9_sample 26 = .ok (.getfield 70, 3) := by decide +kernel
theorem dX9_sample_29 : decode cX9_sample 29 = .ok (.ifCond .le 7, 3) := by decide +kernel
theorem dX9_sample_32 : decode cX9_sample 32 = .ok (.iconst 0, 1) := by decide +kernel
theorem dX9_sample_33 : decode cX9_sample 33 = .ok (.goto 9, 3) := by decide +kernel
theorem dX9_sample_36 : decode cX9_sample 36 = .ok (.aload_n 0, 1) := by decide +kernel
theorem dX9_sample_37 : decode cX9_sample 37 = .ok (.getfield 27, 3) := by decide +kernel
theorem dX9_sample_40 : decode cX9_sample 40 = .ok (.iload_n 1, 1) := by decide +kernel
theorem dX9_sample_41 : decode cX9_sample 41 = .ok (.iaload, 1) := by decide +kernel
theorem dX9_sample_42 : decode cX9_sample 42 = .ok (.ireturn, 1) := by decide +kernel
theorem dX9_count_0 : decode cX9_count 0 = .ok (.aload_n 0, 1) := by decide +kernel
theorem dX9_count_1 : decode cX9_count 1 = .ok (.iconst 0, 1) := by decide +kernel
theorem dX9_count_2 : decode cX9_count 2 = .ok (.putfield 70, 3) := by decide +kernel
theorem dX9_count_5 : decode cX9_count 5 = .ok (.iload_n 1, 1) := by decide +kernel
theorem dX9_count_6 : decode cX9_count 6 = .ok (.tableswitch 95 0 8 #[50, 55, 60, 65, 70, 75, 80, 85, 90], 50) := by decide +kernel
theorem dX9_count_56 : decode cX9_count 56 = .ok (.aload_n 0, 1) := by decide +kernel
theorem dX9_count_57 : decode cX9_count 57 = .ok (.getfield 89, 3) := by decide +kernel
theorem dX9_count_60 : decode cX9_count 60 = .ok (.ireturn, 1) := by decide +kernel
theorem dX9_count_61 : decode cX9_count 61 = .ok (.aload_n 0, 1) := by decide +kernel
theorem dX9_count_62 : decode cX9_count 62 = .ok (.getfield 7, 3) := by decide +kernel
theorem dX9_count_65 : decode cX9_count 65 = .ok (.ireturn, 1) := by decide +kernel
theorem dX9_count_66 : decode cX9_count 66 = .ok (.aload_n 0, 1) := by decide +kernel
theorem dX9_count_67 : decode cX9_count 67 = .ok (.getfield 13, 3) := by decide +kernel
theorem dX9_count_70 : decode cX9_count 70 = .ok (.ireturn, 1) := by decide +kernel
theorem dX9_count_71 : decode cX9_count 71 = .ok (.aload_n 0, 1) := by decide +kernel
theorem dX9_count_72 : decode cX9_count 72 = .ok (.getfield 16, 3) := by decide +kernel
theorem dX9_count_75 : decode cX9_count 75 = .ok (.ireturn, 1) := by decide +kernel
theorem dX9_count_76 : decode cX9_count 76 = .ok (.aload_n 0, 1) := by decide +kernel
theorem dX9_count_77 : decode cX9_count 77 = .ok (.getfield 20, 3) := by decide +kernel
theorem dX9_count_80 : decode cX9_count 80 = .ok (.ireturn, 1) := by decide +kernel
theorem dX9_count_81 : decode cX9_count 81 = .ok (.aload_n 0, 1) := by decide +kernel
theorem dX9_count_82 : decode cX9_count 82 = .ok (.getfield 256, 3) := by decide +kernel
theorem dX9_count_85 : decode cX9_count 85 = .ok (.ireturn, 1) := by decide +kernel
theorem dX9_count_86 : decode cX9_count 86 = .ok (.aload_n 0, 1) := by decide +kernel
theorem dX9_count_87 : decode cX9_count 87 = .ok (.getfield 246, 3) := by decide +kernel
theorem dX9_count_90 : decode cX9_count 90 = .ok (.ireturn, 1) := by decide +kernel
theorem dX9_count_91 : decode cX9_count 91 = .ok (.aload_n 0, 1) := by decide +kernel
theorem dX9_count_92 : decode cX9_count 92 = .ok (.getfield 259, 3) := by decide +kernel
theorem dX9_count_95 : decode cX9_count 95 = .ok (.ireturn, 1) := by decide +kernel
theorem dX9_count_96 : decode cX9_count 96 = .ok (.aload_n 0, 1) := by decide +kernel
theorem dX9_count_97 : decode cX9_count 97 = .ok (.getfield 97, 3) := by decide +kernel
theorem dX9_count_100 : decode cX9_count 100 = .ok (.ireturn, 1) := by decide +kernel
theorem dX9_count_101 : decode cX9_count 101 = .ok (.iconst (-1), 1) := by decide +kernel
theorem dX9_count_102 : decode cX9_count 102 = .ok (.ireturn, 1) := by decide +kernel
theorem dJ9_max_7cf53_0 : decode cJ9_max_7cf53 0 = .ok (.iload_n 0, 1) := by decide +kernel
theorem dJ9_max_7cf53_1 : decode cJ9_max_7cf53 1 = .ok (.iload_n 1, 1) := by decide +kernel
theorem dJ9_max_7cf53_2 : decode cJ9_max_7cf53 2 = .ok (.if_icmp .lt 7, 3) := by decide +kernel
theorem dJ9_max_7cf53_5 : decode cJ9_max_7cf53 5 = .ok (.iload_n 0, 1) := by decide +kernel
theorem dJ9_max_7cf53_6 : decode cJ9_max_7cf53 6 = .ok (.goto 4, 3) := by decide +kernel
theorem dJ9_max_7cf53_9 : decode cJ9_max_7cf53 9 = .ok (.iload_n 1, 1) := by decide +kernel
theorem dJ9_max_7cf53_10 : decode cJ9_max_7cf53 10 = .ok (.ireturn, 1) := by decide +kernel
theorem dJ9_min_7cf53_0 : decode cJ9_min_7cf53 0 = .ok (.iload_n 0, 1) := by decide +kernel
theorem dJ9_min_7cf53_1 : decode cJ9_min_7cf53 1 = .ok (.iload_n 1, 1) := by decide +kernel
theorem dJ9_min_7cf53_2 : decode cJ9_min_7cf53 2 = .ok (.if_icmp .gt 7, 3) := by decide +kernel
theorem dJ9_min_7cf53_5 : decode cJ9_min_7cf53 5 = .ok (.iload_n 0, 1) := by decide +kernel
theorem dJ9_min_7cf53_6 : decode cJ9_min_7cf53 6 = .ok (.goto 4, 3) := by decide +kernel
theorem dJ9_min_7cf53_9 : decode cJ9_min_7cf53 9 = .ok (.iload_n 1, 1) := by decide +kernel
theorem dJ9_min_7cf53_10 : decode cJ9_min_7cf53 10 = .ok (.ireturn, 1) := by decide +kernel
theorem dJ7_rangeCheck_23922_0 : decode cJ7_rangeCheck_23922 0 = .ok (.iload_n 1, 1) := by decide +kernel
theorem dJ7_rangeCheck_23922_1 : decode cJ7_rangeCheck_23922 1 = .ok (.iload_n 2, 1) := by decide +kernel
theorem dJ7_rangeCheck_23922_2 : decode cJ7_rangeCheck_23922 2 = .ok (.if_icmp .le 44, 3) := by decide +kernel
theorem dJ7_rangeCheck_23922_5 : decode cJ7_rangeCheck_23922 5 = .ok (.new 43, 3) := by decide +kernel
theorem dJ7_rangeCheck_23922_8 : decode cJ7_rangeCheck_23922 8 = .ok (.dup, 1) := by decide +kernel
theorem dJ7_rangeCheck_23922_9 : decode cJ7_rangeCheck_23922 9 = .ok (.new 45, 3) := by decide +kernel
theorem dJ7_rangeCheck_23922_12 : decode cJ7_rangeCheck_23922 12 = .ok (.dup, 1) := by decide +kernel
theorem dJ7_rangeCheck_23922_13 : decode cJ7_rangeCheck_23922 13 = .ok (.invokespecial 47, 3) := by decide +kernel
theorem dJ7_rangeCheck_23922_16 : decode cJ7_rangeCheck_23922 16 = .ok (.ldc 48, 2) := by decide +kernel
theorem dJ7_rangeCheck_23922_18 : decode cJ7_rangeCheck_23922 18 = .ok (.invokevirtual 50, 3) := by decide +kernel
theorem dJ7_rangeCheck_23922_21 : decode cJ7_rangeCheck_23922 21 = .ok (.iload_n 1, 1) := by decide +kernel
theorem dJ7_rangeCheck_23922_22 : decode cJ7_rangeCheck_23922 22 = .ok (.invokevirtual 54, 3) := by decide +kernel
theorem dJ7_rangeCheck_23922_25 : decode cJ7_rangeCheck_23922 25 = .ok (.ldc 57, 2) := by decide +kernel
theorem dJ7_rangeCheck_23922_27 : decode cJ7_rangeCheck_23922 27 = .ok (.invokevirtual 50, 3) := by decide +kernel
theorem dJ7_rangeCheck_23922_30 : decode cJ7_rangeCheck_23922 30 = .ok (.iload_n 2, 1) := by decide +kernel
theorem dJ7_rangeCheck_23922_31 : decode cJ7_rangeCheck_23922 31 = .ok (.invokevirtual 54, 3) := by decide +kernel
theorem dJ7_rangeCheck_23922_34 : decode cJ7_rangeCheck_23922 34 = .ok (.ldc 59, 2) := by decide +kernel
theorem dJ7_rangeCheck_23922_36 : decode cJ7_rangeCheck_23922 36 = .ok (.invokevirtual 50, 3) := by decide +kernel
theorem dJ7_rangeCheck_23922_39 : decode cJ7_rangeCheck_23922 39 = .ok (.invokevirtual 61, 3) := by decide +kernel
theorem dJ7_rangeCheck_23922_42 : decode cJ7_rangeCheck_23922 42 = .ok (.invokespecial 65, 3) := by decide +kernel
theorem dJ7_rangeCheck_23922_45 : decode cJ7_rangeCheck_23922 45 = .ok (.athrow, 1) := by decide +kernel
theorem dJ7_rangeCheck_23922_46 : decode cJ7_rangeCheck_23922 46 = .ok (.iload_n 1, 1) := by decide +kernel
theorem dJ7_rangeCheck_23922_47 : decode cJ7_rangeCheck_23922 47 = .ok (.ifCond .ge 12, 3) := by decide +kernel
theorem dJ7_rangeCheck_23922_50 : decode cJ7_rangeCheck_23922 50 = .ok (.new 68, 3) := by decide +kernel
theorem dJ7_rangeCheck_23922_53 : decode cJ7_rangeCheck_23922 53 = .ok (.dup, 1) := by decide +kernel
theorem dJ7_rangeCheck_23922_54 : decode cJ7_rangeCheck_23922 54 = .ok (.iload_n 1, 1) := by decide +kernel
theorem dJ7_rangeCheck_23922_55 : decode cJ7_rangeCheck_23922 55 = .ok (.invokespecial 70, 3) := by decide +kernel
theorem dJ7_rangeCheck_23922_58 : decode cJ7_rangeCheck_23922 58 = .ok (.athrow, 1) := by decide +kernel
theorem dJ7_rangeCheck_23922_59 : decode cJ7_rangeCheck_23922 59 = .ok (.iload_n 2, 1) := by decide +kernel
theorem dJ7_rangeCheck_23922_60 : decode cJ7_rangeCheck_23922 60 = .ok (.iload_n 0, 1) := by decide +kernel
theorem dJ7_rangeCheck_23922_61 : decode cJ7_rangeCheck_23922 61 = .ok (.if_icmp .le 12, 3) := by decide +kernel
theorem dJ7_rangeCheck_23922_64 : decode cJ7_rangeCheck_23922 64 = .ok (.new 68, 3) := by decide +kernel
theorem dJ7_rangeCheck_23922_67 : decode cJ7_rangeCheck_23922 67 = .ok (.dup, 1) := by decide +kernel
theorem dJ7_rangeCheck_23922_68 : decode cJ7_rangeCheck_23922 68 = .ok (.iload_n 2, 1) := by decide +kernel
theorem dJ7_rangeCheck_23922_69 : decode cJ7_rangeCheck_23922 69 = .ok (.invokespecial 70, 3) := by decide +kernel
theorem dJ7_rangeCheck_23922_72 : decode cJ7_rangeCheck_23922 72 = .ok (.athrow, 1) := by decide +kernel
theorem dJ7_rangeCheck_23922_73 : decode cJ7_rangeCheck_23922 73 = .ok (.return_, 1) := by decide +kernel
theorem dJ7_fill_d0a16_0 : decode cJ7_fill_d0a16 0 = .ok (.iconst 0, 1) := by decide +kernel
theorem dJ7_fill_d0a16_1 : decode cJ7_fill_d0a16 1 = .ok (.istore_n 3, 1) := by decide +kernel
theorem dJ7_fill_d0a16_2 : decode cJ7_fill_d0a16 2 = .ok (.aload_n 0, 1) := by decide +kernel
theorem dJ7_fill_d0a16_3 : decode cJ7_fill_d0a16 3 = .ok (.arraylength, 1) := by decide +kernel
theorem dJ7_fill_d0a16_4 : decode cJ7_fill_d0a16 4 = .ok (.istore 4, 2) := by decide +kernel
theorem dJ7_fill_d0a16_6 : decode cJ7_fill_d0a16 6 = .ok (.iload_n 3, 1) := by decide +kernel
theorem dJ7_fill_d0a16_7 : decode cJ7_fill_d0a16 7 = .ok (.iload 4, 2) := by decide +kernel
theorem dJ7_fill_d0a16_9 : decode cJ7_fill_d0a16 9 = .ok (.if_icmp .ge 13, 3) := by decide +kernel
theorem dJ7_fill_d0a16_12 : decode cJ7_fill_d0a16 12 = .ok (.aload_n 0, 1) := by decide +kernel
theorem dJ7_fill_d0a16_13 : decode cJ7_fill_d0a16 13 = .ok (.iload_n 3, 1) := by decide +kernel
theorem dJ7_fill_d0a16_14 : decode cJ7_fill_d0a16 14 = .ok (.lload_n 1, 1) := by decide +kernel
theorem dJ7_fill_d0a16_15 : decode cJ7_fill_d0a16 15 = .ok (.lastore, 1) := by decide +kernel
theorem dJ7_fill_d0a16_16 : decode cJ7_fill_d0a16 16 = .ok (.iinc 3 1, 3) := by decide +kernel
theorem dJ7_fill_d0a16_19 : decode cJ7_fill_d0a16 19 = .ok (.goto (-13), 3) := by decide +kernel
theorem dJ7_fill_d0a16_22 : decode cJ7_fill_d0a16 22 = .ok (.return_, 1) := by decide +kernel
theorem dJ7_fill_fda19_0 : decode cJ7_fill_fda19 0 = .ok (.aload_n 0, 1) := by decide +kernel
theorem dJ7_fill_fda19_1 : decode cJ7_fill_fda19 1 = .ok (.arraylength, 1) := by decide +kernel
theorem dJ7_fill_fda19_2 : decode cJ7_fill_fda19 2 = .ok (.iload_n 1, 1) := by decide +kernel
theorem dJ7_fill_fda19_3 : decode cJ7_fill_fda19 3 = .ok (.iload_n 2, 1) := by decide +kernel
theorem dJ7_fill_fda19_4 : decode cJ7_fill_fda19 4 = .ok (.invokestatic 13, 3) := by decide +kernel
theorem dJ7_fill_fda19_7 : decode cJ7_fill_fda19 7 = .ok (.iload_n 1, 1) := by decide +kernel
theorem dJ7_fill_fda19_8 : decode cJ7_fill_fda19 8 = .ok (.istore 4, 2) := by decide +kernel
theorem dJ7_fill_fda19_10 : decode cJ7_fill_fda19 10 = .ok (.iload 4, 2) := by decide +kernel
theorem dJ7_fill_fda19_12 : decode cJ7_fill_fda19 12 = .ok (.iload_n 2, 1) := by decide +kernel
theorem dJ7_fill_fda19_13 : decode cJ7_fill_fda19 13 = .ok (.if_icmp .ge 14, 3) := by decide +kernel
theorem dJ7_fill_fda19_16 : decode cJ7_fill_fda19 16 = .ok (.aload_n 0, 1) := by decide +kernel
theorem dJ7_fill_fda19_17 : decode cJ7_fill_fda19 17 = .ok (.iload 4, 2) := by decide +kernel
theorem dJ7_fill_fda19_19 : decode cJ7_fill_fda19 19 = .ok (.iload_n 3, 1) := by decide +kernel
theorem dJ7_fill_fda19_20 : decode cJ7_fill_fda19 20 = .ok (.iastore, 1) := by decide +kernel
theorem dJ7_fill_fda19_21 : decode cJ7_fill_fda19 21 = .ok (.iinc 4 1, 3) := by decide +kernel
theorem dJ7_fill_fda19_24 : decode cJ7_fill_fda19 24 = .ok (.goto (-14), 3) := by decide +kernel
theorem dJ7_fill_fda19_27 : decode cJ7_fill_fda19 27 = .ok (.return_, 1) := by decide +kernel
theorem dJ7_fill_eb02e_0 : decode cJ7_fill_eb02e 0 = .ok (.aload_n 0, 1) := by decide +kernel
theorem dJ7_fill_eb02e_1 : decode cJ7_fill_eb02e 1 = .ok (.arraylength, 1) := by decide +kernel
theorem dJ7_fill_eb02e_2 : decode cJ7_fill_eb02e 2 = .ok (.iload_n 1, 1) := by decide +kernel
theorem dJ7_fill_eb02e_3 : decode cJ7_fill_eb02e 3 = .ok (.iload_n 2, 1) := by decide +kernel
theorem dJ7_fill_eb02e_4 : decode cJ7_fill_eb02e 4 = .ok (.invokestatic 13, 3) := by decide +kernel
theorem dJ7_fill_eb02e_7 : decode cJ7_fill_eb02e 7 = .ok (.iload_n 1, 1) := by decide +kernel
theorem dJ7_fill_eb02e_8 : decode cJ7_fill_eb02e 8 = .ok (.istore 4, 2) := by decide +kernel
theorem dJ7_fill_eb02e_10 : decode cJ7_fill_eb02e 10 = .ok (.iload 4, 2) := by decide +kernel
theorem dJ7_fill_eb02e_12 : decode cJ7_fill_eb02e 12 = .ok (.iload_n 2, 1) := by decide +kernel
theorem dJ7_fill_eb02e_13 : decode cJ7_fill_eb02e 13 = .ok (.if_icmp .ge 14, 3) := by decide +kernel
theorem dJ7_fill_eb02e_16 : decode cJ7_fill_eb02e 16 = .ok (.aload_n 0, 1) := by decide +kernel
theorem dJ7_fill_eb02e_17 : decode cJ7_fill_eb02e 17 = .ok (.iload 4, 2) := by decide +kernel
theorem dJ7_fill_eb02e_19 : decode cJ7_fill_eb02e 19 = .ok (.iload_n 3, 1) := by decide +kernel
theorem dJ7_fill_eb02e_20 : decode cJ7_fill_eb02e 20 = .ok (.bastore, 1) := by decide +kernel
theorem dJ7_fill_eb02e_21 : decode cJ7_fill_eb02e 21 = .ok (.iinc 4 1, 3) := by decide +kernel
theorem dJ7_fill_eb02e_24 : decode cJ7_fill_eb02e 24 = .ok (.goto (-14), 3) := by decide +kernel
theorem dJ7_fill_eb02e_27 : decode cJ7_fill_eb02e 27 = .ok (.return_, 1) := by decide +kernel
theorem dL_shape_0 : decode cL_shape 0 = .ok (.aload_n 0, 1) := by decide +kernel
theorem dL_shape_1 : decode cL_shape 1 = .ok (.iload_n 1, 1) := by decide +kernel
theorem dL_shape_2 : decode cL_shape 2 = .ok (.iload_n 2, 1) := by decide +kernel
theorem dL_shape_3 : decode cL_shape 3 = .ok (.iload_n 3, 1) := by decide +kernel
theorem dL_shape_4 : decode cL_shape 4 = .ok (.iload 4, 2) := by decide +kernel
theorem dL_shape_6 : decode cL_shape 6 = .ok (.invokevirtual 7, 3) := by decide +kernel
theorem dL_shape_9 : decode cL_shape 9 = .ok (.goto 7, 3) := by decide +kernel
theorem dL_shape_12 : decode cL_shape 12 = .ok (.astore 5, 2) := by decide +kernel
theorem dL_shape_14 : decode cL_shape 14 = .ok (.iconst 1, 1) := by decide +kernel
theorem dL_shape_15 : decode cL_shape 15 = .ok (.ireturn, 1) := by decide +kernel
theorem dL_shape_16 : decode cL_shape 16 = .ok (.iconst 0, 1) := by decide +kernel
theorem dL_shape_17 : decode cL_shape 17 = .ok (.ireturn, 1) := by decide +kernel
theorem dL_predict_0 : decode cL_predict 0 = .ok (.aload_n 0, 1) := by decide +kernel
theorem dL_predict_1 : decode cL_predict 1 = .ok (.iload_n 1, 1) := by decide +kernel
theorem dL_predict_2 : decode cL_predict 2 = .ok (.invokevirtual 15, 3) := by decide +kernel
theorem dL_predict_5 : decode cL_predict 5 = .ok (.goto 6, 3) := by decide +kernel
theorem dL_predict_8 : decode cL_predict 8 = .ok (.astore_n 2, 1) := by decide +kernel
theorem dL_predict_9 : decode cL_predict 9 = .ok (.iconst 1, 1) := by decide +kernel
theorem dL_predict_10 : decode cL_predict 10 = .ok (.ireturn, 1) := by decide +kernel
theorem dL_predict_11 : decode cL_predict 11 = .ok (.iconst 0, 1) := by decide +kernel
theorem dL_predict_12 : decode cL_predict 12 = .ok (.ireturn, 1) := by decide +kernel
theorem dL_coefficient_0 : decode cL_coefficient 0 = .ok (.aload_n 0, 1) := by decide +kernel
theorem dL_coefficient_1 : decode cL_coefficient 1 = .ok (.iload_n 1, 1) := by decide +kernel
theorem dL_coefficient_2 : decode cL_coefficient 2 = .ok (.invokevirtual 19, 3) := by decide +kernel
theorem dL_coefficient_5 : decode cL_coefficient 5 = .ok (.goto 9, 3) := by decide +kernel
theorem dL_coefficient_8 : decode cL_coefficient 8 = .ok (.astore_n 2, 1) := by decide +kernel
theorem dL_coefficient_9 : decode cL_coefficient 9 = .ok (.iconst 1, 1) := by decide +kernel
theorem dL_coefficient_10 : decode cL_coefficient 10 = .ok (.ireturn, 1) := by decide +kernel
theorem dL_coefficient_11 : decode cL_coefficient 11 = .ok (.astore_n 2, 1) := by decide +kernel
theorem dL_coefficient_12 : decode cL_coefficient 12 = .ok (.iconst 2, 1) := by decide +kernel
theorem dL_coefficient_13 : decode cL_coefficient 13 = .ok (.ireturn, 1) := by decide +kernel
theorem dL_coefficient_14 : decode cL_coefficient 14 = .ok (.iconst 0, 1) := by decide +kernel
theorem dL_coefficient_15 : decode cL_coefficient 15 = .ok (.ireturn, 1) := by decide +kernel
theorem dL_push_0 : decode cL_push 0 = .ok (.aload_n 0, 1) := by decide +kernel
theorem dL_push_1 : decode cL_push 1 = .ok (.iload_n 1, 1) := by decide +kernel
theorem dL_push_2 : decode cL_push 2 = .ok (.invokevirtual 24, 3) := by decide +kernel
theorem dL_push_5 : decode cL_push 5 = .ok (.goto 9, 3) := by decide +kernel
theorem dL_push_8 : decode cL_push 8 = .ok (.astore_n 2, 1) := by decide +kernel
theorem dL_push_9 : decode cL_push 9 = .ok (.iconst 1, 1) := by decide +kernel
theorem dL_push_10 : decode cL_push 10 = .ok (.ireturn, 1) := by decide +kernel
theorem dL_push_11 : decode cL_push 11 = .ok (.astore_n 2, 1) := by decide +kernel
theorem dL_push_12 : decode cL_push 12 = .ok (.iconst 2, 1) := by decide +kernel
theorem dL_push_13 : decode cL_push 13 = .ok (.ireturn, 1) := by decide +kernel
theorem dL_push_14 : decode cL_push 14 = .ok (.iconst 0, 1) := by decide +kernel
theorem dL_push_15 : decode cL_push 15 = .ok (.ireturn, 1) := by decide +kernel
theorem dL_make_0 : decode cL_make 0 = .ok (.aload_n 1, 1) := by decide +kernel
theorem dL_make_1 : decode cL_make 1 = .ok (.iconst 0, 1) := by decide +kernel
theorem dL_make_2 : decode cL_make 2 = .ok (.aload_n 0, 1) := by decide +kernel
theorem dL_make_3 : decode cL_make 3 = .ok (.invokevirtual 27, 3) := by decide +kernel
theorem dL_make_6 : decode cL_make 6 = .ok (.i2l, 1) := by decide +kernel
theorem dL_make_7 : decode cL_make 7 = .ok (.lastore, 1) := by decide +kernel
theorem dL_make_8 : decode cL_make 8 = .ok (.goto 6, 3) := by decide +kernel
theorem dL_make_11 : decode cL_make 11 = .ok (.astore_n 2, 1) := by decide +kernel
theorem dL_make_12 : decode cL_make 12 = .ok (.iconst 1, 1) := by decide +kernel
theorem dL_make_13 : decode cL_make 13 = .ok (.ireturn, 1) := by decide +kernel
theorem dL_make_14 : decode cL_make 14 = .ok (.iconst 0, 1) := by decide +kernel
theorem dL_make_15 : decode cL_make 15 = .ok (.ireturn, 1) := by decide +kernel
theorem dL_way_0 : decode cL_way 0 = .ok (.aload 4, 2) := by decide +kernel
theorem dL_way_2 : decode cL_way 2 = .ok (.iconst 0, 1) := by decide +kernel
theorem dL_way_3 : decode cL_way 3 = .ok (.aload_n 0, 1) := by decide +kernel
theorem dL_way_4 : decode cL_way 4 = .ok (.iload_n 1, 1) := by decide +kernel
theorem dL_way_5 : decode cL_way 5 = .ok (.iload_n 2, 1) := by decide +kernel
theorem dL_way_6 : decode cL_way 6 = .ok (.iload_n 3, 1) := by decide +kernel
theorem dL_way_7 : decode cL_way 7 = .ok (.invokevirtual 31, 3) := by decide +kernel
theorem dL_way_10 : decode cL_way 10 = .ok (.i2l, 1) := by decide +kernel
theorem dL_way_11 : decode cL_way 11 = .ok (.lastore, 1) := by decide +kernel
theorem dL_way_12 : decode cL_way 12 = .ok (.goto 7, 3) := by decide +kernel
theorem dL_way_15 : decode cL_way 15 = .ok (.astore 5, 2) := by decide +kernel
theorem dL_way_17 : decode cL_way 17 = .ok (.iconst 1, 1) := by decide +kernel
theorem dL_way_18 : decode cL_way 18 = .ok (.ireturn, 1) := by decide +kernel
theorem dL_way_19 : decode cL_way 19 = .ok (.iconst 0, 1) := by decide +kernel
theorem dL_way_20 : decode cL_way 20 = .ok (.ireturn, 1) := by decide +kernel
theorem dL_read_0 : decode cL_read 0 = .ok (.aload_n 1, 1) := by decide +kernel
theorem dL_read_1 : decode cL_read 1 = .ok (.iconst 0, 1) := by decide +kernel
theorem dL_read_2 : decode cL_read 2 = .ok (.aload_n 0, 1) := by decide +kernel
theorem dL_read_3 : decode cL_read 3 = .ok (.invokevirtual 35, 3) := by decide +kernel
theorem dL_read_6 : decode cL_read 6 = .ok (.i2l, 1) := by decide +kernel
theorem dL_read_7 : decode cL_read 7 = .ok (.lastore, 1) := by decide +kernel
theorem dL_read_8 : decode cL_read 8 = .ok (.goto 6, 3) := by decide +kernel
theorem dL_read_11 : decode cL_read 11 = .ok (.astore_n 2, 1) := by decide +kernel
theorem dL_read_12 : decode cL_read 12 = .ok (.iconst 1, 1) := by decide +kernel
theorem dL_read_13 : decode cL_read 13 = .ok (.ireturn, 1) := by decide +kernel
theorem dL_read_14 : decode cL_read 14 = .ok (.iconst 0, 1) := by decide +kernel
theorem dL_read_15 : decode cL_read 15 = .ok (.ireturn, 1) := by decide +kernel
theorem dL_sample_0 : decode cL_sample 0 = .ok (.aload_n 2, 1) := by decide +kernel
theorem dL_sample_1 : decode cL_sample 1 = .ok (.iconst 0, 1) := by decide +kernel
theorem dL_sample_2 : decode cL_sample 2 = .ok (.aload_n 0, 1) := by decide +kernel
theorem dL_sample_3 : decode cL_sample 3 = .ok (.iload_n 1, 1) := by decide +kernel
theorem dL_sample_4 : decode cL_sample 4 = .ok (.invokevirtual 38, 3) := by decide +kernel
theorem dL_sample_7 : decode cL_sample 7 = .ok (.i2l, 1) := by decide +kernel
theorem dL_sample_8 : decode cL_sample 8 = .ok (.lastore, 1) := by decide +kernel
theorem dL_sample_9 : decode cL_sample 9 = .ok (.goto 6, 3) := by decide +kernel
theorem dL_sample_12 : decode cL_sample 12 = .ok (.astore_n 3, 1) := by decide +kernel
theorem dL_sample_13 : decode cL_sample 13 = .ok (.iconst 1, 1) := by decide +kernel
theorem dL_sample_14 : decode cL_sample 14 = .ok (.ireturn, 1) := by decide +kernel
theorem dL_sample_15 : decode cL_sample 15 = .ok (.iconst 0, 1) := by decide +kernel
theorem dL_sample_16 : decode cL_sample 16 = .ok (.ireturn, 1) := by decide +kernel
theorem dL_law_0 : decode cL_law 0 = .ok (.new 8, 3) := by decide +kernel
theorem dL_law_3 : decode cL_law 3 = .ok (.dup, 1) := by decide +kernel
theorem dL_law_4 : decode cL_law 4 = .ok (.invokespecial 42, 3) := by decide +kernel
theorem dL_law_7 : decode cL_law 7 = .ok (.astore_n 1, 1) := by decide +kernel
theorem dL_law_8 : decode cL_law 8 = .ok (.new 43, 3) := by decide +kernel
theorem dL_law_11 : decode cL_law 11 = .ok (.dup, 1) := by decide +kernel
theorem dL_law_12 : decode cL_law 12 = .ok (.invokespecial 45, 3) := by decide +kernel
theorem dL_law_15 : decode cL_law 15 = .ok (.astore_n 2, 1) := by decide +kernel
theorem dL_law_16 : decode cL_law 16 = .ok (.iconst 1, 1) := by decide +kernel
theorem dL_law_17 : decode cL_law 17 = .ok (.newarray .long, 2) := by decide +kernel
theorem dL_law_19 : decode cL_law 19 = .ok (.astore_n 3, 1) := by decide +kernel
theorem dL_law_20 : decode cL_law 20 = .ok (.iconst 0, 1) := by decide +kernel
theorem dL_law_21 : decode cL_law 21 = .ok (.istore 4, 2) := by decide +kernel
theorem dL_law_23 : decode cL_law 23 = .ok (.iload 4, 2) := by decide +kernel
theorem dL_law_25 : decode cL_law 25 = .ok (.aload_n 0, 1) := by decide +kernel
theorem dL_law_26 : decode cL_law 26 = .ok (.arraylength, 1) := by decide +kernel
theorem dL_law_27 : decode cL_law 27 = .ok (.iconst 5, 1) := by decide +kernel
theorem dL_law_28 : decode cL_law 28 = .ok (.isub, 1) := by decide +kernel
theorem dL_law_29 : decode cL_law 29 = .ok (.if_icmp .gt 647, 3) := by decide +kernel
theorem dL_law_32 : decode cL_law 32 = .ok (.aload_n 0, 1) := by decide +kernel
theorem dL_law_33 : decode cL_law 33 = .ok (.iload 4, 2) := by decide +kernel
theorem dL_law_35 : decode cL_law 35 = .ok (.iaload, 1) := by decide +kernel
theorem dL_law_36 : decode cL_law 36 = .ok (.bipush 15, 2) := by decide +kernel
theorem dL_law_38 : decode cL_law 38 = .ok (.iand, 1) := by decide +kernel
theorem dL_law_39 : decode cL_law 39 = .ok (.tableswitch 631 0 13 #[69, 141, 177, 213, 249, 293, 318, 398, 467, 480, 524, 537, 550, 606], 69) := by decide +kernel
theorem dL_law_108 : decode cL_law 108 = .ok (.aload_n 1, 1) := by decide +kernel
theorem dL_law_109 : decode cL_law 109 = .ok (.aload_n 0, 1) := by decide +kernel
theorem dL_law_110 : decode cL_law 110 = .ok (.iload 4, 2) := by decide +kernel
theorem dL_law_112 : decode cL_law 112 = .ok (.iconst 1, 1) := by decide +kernel
theorem dL_law_113 : decode cL_law 113 = .ok (.iadd, 1) := by decide +kernel
theorem dL_law_114 : decode cL_law 114 = .ok (.iaload, 1) := by decide +kernel
theorem dL_law_115 : decode cL_law 115 = .ok (.aload_n 0, 1) := by decide +kernel
theorem dL_law_116 : decode cL_law 116 = .ok (.iload 4, 2) := by decide +kernel
theorem dL_law_118 : decode cL_law 118 = .ok (.iconst 2, 1) := by decide +kernel
theorem dL_law_119 : decode cL_law 119 = .ok (.iadd, 1) := by decide +kernel
theorem dL_law_120 : decode cL_law 120 = .ok (.iaload, 1) := by decide +kernel
theorem dL_law_121 : decode cL_law 121 = .ok (.aload_n 0, 1) := by decide +kernel
theorem dL_law_122 : decode cL_law 122 = .ok (.iload 4, 2) := by decide +kernel
theorem dL_law_124 : decode cL_law 124 = .ok (.iconst 3, 1) := by decide +kernel
theorem dL_law_125 : decode cL_law 125 = .ok (.iadd, 1) := by decide +kernel
theorem dL_law_126 : decode cL_law 126 = .ok (.iaload, 1) := by decide +kernel
theorem dL_law_127 : decode cL_law 127 = .ok (.aload_n 0, 1) := by decide +kernel
theorem dL_law_128 : decode cL_law 128 = .ok (.iload 4, 2) := by decide +kernel
theorem dL_law_130 : decode cL_law 130 = .ok (.iconst 4, 1) := by decide +kernel
theorem dL_law_131 : decode cL_law 131 = .ok (.iadd, 1) := by decide +kernel
theorem dL_law_132 : decode cL_law 132 = .ok (.iaload, 1) := by decide +kernel
theorem dL_law_133 : decode cL_law 133 = .ok (.invokestatic 46, 3) := by decide +kernel
theorem dL_law_136 : decode cL_law 136 = .ok (.istore 5, 2) := by decide +kernel
theorem dL_law_138 : decode cL_law 138 = .ok (.aload_n 2, 1) := by decide +kernel
theorem dL_law_139 : decode cL_law 139 = .ok (.aload_n 0, 1) := by decide +kernel
theorem dL_law_140 : decode cL_law 140 = .ok (.iload 4, 2) := by decide +kernel
theorem dL_law_142 : decode cL_law 142 = .ok (.iconst 1, 1) := by decide +kernel
theorem dL_law_143 : decode cL_law 143 = .ok (.iadd, 1) := by decide +kernel
theorem dL_law_144 : decode cL_law 144 = .ok (.iaload, 1) := by decide +kernel
theorem dL_law_145 : decode cL_law 145 = .ok (.aload_n 0, 1) := by decide +kernel
theorem dL_law_146 : decode cL_law 146 = .ok (.iload 4, 2) := by decide +kernel
theorem dL_law_148 : decode cL_law 148 = .ok (.iconst 2, 1) := by decide +kernel
theorem dL_law_149 : decode cL_law 149 = .ok (.iadd, 1) := by decide +kernel
theorem dL_law_150 : decode cL_law 150 = .ok (.iaload, 1) := by decide +kernel
theorem dL_law_151 : decode cL_law 151 = .ok (.aload_n 0, 1) := by decide +kernel
theorem dL_law_152 : decode cL_law 152 = .ok (.iload 4, 2) := by decide +kernel
theorem dL_law_154 : decode cL_law 154 = .ok (.iconst 3, 1) := by decide +kernel
theorem dL_law_155 : decode cL_law 155 = .ok (.iadd, 1) := by decide +kernel
theorem dL_law_156 : decode cL_law 156 = .ok (.iaload, 1) := by decide +kernel
theorem dL_law_157 : decode cL_law 157 = .ok (.aload_n 0, 1) := by decide +kernel
theorem dL_law_158 : decode cL_law 158 = .ok (.iload 4, 2) := by decide +kernel
theorem dL_law_160 : decode cL_law 160 = .ok (.iconst 4, 1) := by decide +kernel
theorem dL_law_161 : decode cL_law 161 = .ok (.iadd, 1) := by decide +kernel
theorem dL_law_162 : decode cL_law 162 = .ok (.iaload, 1) := by decide +kernel
theorem dL_law_163 : decode cL_law 163 = .ok (.invokevirtual 51, 3) := by decide +kernel
theorem dL_law_166 : decode cL_law 166 = .ok (.aload_n 2, 1) := by decide +kernel
theorem dL_law_167 : decode cL_law 167 = .ok (.invokevirtual 52, 3) := by decide +kernel
theorem dL_law_170 : decode cL_law 170 = .ok (.iload 5, 2) := by decide +kernel
theorem dL_law_172 : decode cL_law 172 = .ok (.if_icmp .eq 5, 3) := by decide +kernel
theorem dL_law_175 : decode cL_law 175 = .ok (.iconst 0, 1) := by decide +kernel
theorem dL_law_176 : decode cL_law 176 = .ok (.ireturn, 1) := by decide +kernel
theorem dL_law_177 : decode cL_law 177 = .ok (.goto 493, 3) := by decide +kernel
theorem dL_law_180 : decode cL_law 180 = .ok (.aload_n 1, 1) := by decide +kernel
theorem dL_law_181 : decode cL_law 181 = .ok (.aload_n 0, 1) := by decide +kernel
theorem dL_law_182 : decode cL_law 182 = .ok (.iload 4, 2) := by decide +kernel
theorem dL_law_184 : decode cL_law 184 = .ok (.iconst 1, 1) := by decide +kernel
theorem dL_law_185 : decode cL_law 185 = .ok (.iadd, 1) := by decide +kernel
theorem dL_law_186 : decode cL_law 186 = .ok (.iaload, 1) := by decide +kernel
theorem dL_law_187 : decode cL_law 187 = .ok (.invokestatic 55, 3) := by decide +kernel
theorem dL_law_190 : decode cL_law 190 = .ok (.istore 5, 2) := by decide +kernel
theorem dL_law_192 : decode cL_law 192 = .ok (.aload_n 2, 1) := by decide +kernel
theorem dL_law_193 : decode cL_law 193 = .ok (.aload_n 0, 1) := by decide +kernel
theorem dL_law_194 : decode cL_law 194 = .ok (.iload 4, 2) := by decide +kernel
theorem dL_law_196 : decode cL_law 196 = .ok (.iconst 1, 1) := by decide +kernel
theorem dL_law_197 : decode cL_law 197 = .ok (.iadd, 1) := by decide +kernel
theorem dL_law_198 : decode cL_law 198 = .ok (.iaload, 1) := by decide +kernel
theorem dL_law_199 : decode cL_law 199 = .ok (.invokevirtual 58, 3) := by decide +kernel
theorem dL_law_202 : decode cL_law 202 = .ok (.aload_n 2, 1) := by decide +kernel
theorem dL_law_203 : decode cL_law 203 = .ok (.invokevirtual 52, 3) := by decide +kernel
theorem dL_law_206 : decode cL_law 206 = .ok (.iload 5, 2) := by decide +kernel
theorem dL_law_208 : decode cL_law 208 = .ok (.if_icmp .eq 5, 3) := by decide +kernel
theorem dL_law_211 : decode cL_law 211 = .ok (.iconst 0, 1) := by decide +kernel
theorem dL_law_212 : decode cL_law 212 = .ok (.ireturn, 1) := by decide +kernel
theorem dL_law_213 : decode cL_law 213 = .ok (.goto 457, 3) := by decide +kernel
theorem dL_law_216 : decode cL_law 216 = .ok (.aload_n 1, 1) := by decide +kernel
theorem dL_law_217 : decode cL_law 217 = .ok (.aload_n 0, 1) := by decide +kernel
theorem dL_law_218 : decode cL_law 218 = .ok (.iload 4, 2) := by decide +kernel
theorem dL_law_220 : decode cL_law 220 = .ok (.iconst 1, 1) := by decide +kernel
theorem dL_law_221 : decode cL_law 221 = .ok (.iadd, 1) := by decide +kernel
theorem dL_law_222 : decode cL_law 222 = .ok (.iaload, 1) := by decide +kernel
theorem dL_law_223 : decode cL_law 223 = .ok (.invokestatic 59, 3) := by decide +kernel
theorem dL_law_226 : decode cL_law 226 = .ok (.istore 5, 2) := by decide +kernel
theorem dL_law_228 : decode cL_law 228 = .ok (.aload_n 2, 1) := by decide +kernel
theorem dL_law_229 : decode cL_law 229 = .ok (.aload_n 0, 1) := by decide +kernel
theorem dL_law_230 : decode cL_law 230 = .ok (.iload 4, 2) := by decide +kernel
theorem dL_law_232 : decode cL_law 232 = .ok (.iconst 1, 1) := by decide +kernel
theorem dL_law_233 : decode cL_law 233 = .ok (.iadd, 1) := by decide +kernel
theorem dL_law_234 : decode cL_law 234 = .ok (.iaload, 1) := by decide +kernel
theorem dL_law_235 : decode cL_law 235 = .ok (.invokevirtual 61, 3) := by decide +kernel
theorem dL_law_238 : decode cL_law 238 = .ok (.aload_n 2, 1) := by decide +kernel
theorem dL_law_239 : decode cL_law 239 = .ok (.invokevirtual 52, 3) := by decide +kernel
theorem dL_law_242 : decode cL_law 242 = .ok (.iload 5, 2) := by decide +kernel
theorem dL_law_244 : decode cL_law 244 = .ok (.if_icmp .eq 5, 3) := by decide +kernel
theorem dL_law_247 : decode cL_law 247 = .ok (.iconst 0, 1) := by decide +kernel
theorem dL_law_248 : decode cL_law 248 = .ok (.ireturn, 1) := by decide +kernel
theorem dL_law_249 : decode cL_law 249 = .ok (.goto 421, 3) := by decide +kernel
theorem dL_law_252 : decode cL_law 252 = .ok (.aload_n 1, 1) := by decide +kernel
theorem dL_law_253 : decode cL_law 253 = .ok (.aload_n 0, 1) := by decide +kernel
theorem dL_law_254 : decode cL_law 254 = .ok (.iload 4, 2) := by decide +kernel
theorem dL_law_256 : decode cL_law 256 = .ok (.iconst 1, 1) := by decide +kernel
theorem dL_law_257 : decode cL_law 257 = .ok (.iadd, 1) := by decide +kernel
theorem dL_law_258 : decode cL_law 258 = .ok (.iaload, 1) := by decide +kernel
theorem dL_law_259 : decode cL_law 259 = .ok (.invokestatic 62, 3) := by decide +kernel
theorem dL_law_262 : decode cL_law 262 = .ok (.istore 5, 2) := by decide +kernel
theorem dL_law_264 : decode cL_law 264 = .ok (.aload_n 2, 1) := by decide +kernel
theorem dL_law_265 : decode cL_law 265 = .ok (.aload_n 0, 1) := by decide +kernel
theorem dL_law_266 : decode cL_law 266 = .ok (.iload 4, 2) := by decide +kernel
theorem dL_law_268 : decode cL_law 268 = .ok (.iconst 1, 1) := by decide +kernel
theorem dL_law_269 : decode cL_law 269 = .ok (.iadd, 1) := by decide +kernel
theorem dL_law_270 : decode cL_law 270 = .ok (.iaload, 1) := by decide +kernel
theorem dL_law_271 : decode cL_law 271 = .ok (.invokevirtual 64, 3) := by decide +kernel
theorem dL_law_274 : decode cL_law 274 = .ok (.aload_n 2, 1) := by decide +kernel
theorem dL_law_275 : decode cL_law 275 = .ok (.invokevirtual 52, 3) := by decide +kernel
theorem dL_law_278 : decode cL_law 278 = .ok (.iload 5, 2) := by decide +kernel
theorem dL_law_280 : decode cL_law 280 = .ok (.if_icmp .eq 5, 3) := by decide +kernel
theorem dL_law_283 : decode cL_law 283 = .ok (.iconst 0, 1) := by decide +kernel
theorem dL_law_284 : decode cL_law 284 = .ok (.ireturn, 1) := by decide +kernel
theorem dL_law_285 : decode cL_law 285 = .ok (.goto 385, 3) := by decide +kernel
theorem dL_law_288 : decode cL_law 288 = .ok (.aload_n 1, 1) := by decide +kernel
theorem dL_law_289 : decode cL_law 289 = .ok (.aload_n 3, 1) := by decide +kernel
theorem dL_law_290 : decode cL_law 290 = .ok (.invokestatic 65, 3) := by decide +kernel
theorem dL_law_293 : decode cL_law 293 = .ok (.istore 5, 2) := by decide +kernel
theorem dL_law_295 : decode cL_law 295 = .ok (.aload_n 2, 1) := by decide +kernel
theorem dL_law_296 : decode cL_law 296 = .ok (.invokevirtual 68, 3) := by decide +kernel
theorem dL_law_299 : decode cL_law 299 = .ok (.istore 6, 2) := by decide +kernel
theorem dL_law_301 : decode cL_law 301 = .ok (.aload_n 2, 1) := by decide +kernel
theorem dL_law_302 : decode cL_law 302 = .ok (.invokevirtual 52, 3) := by decide +kernel
theorem dL_law_305 : decode cL_law 305 = .ok (.iload 5, 2) := by decide +kernel
theorem dL_law_307 : decode cL_law 307 = .ok (.if_icmp .eq 5, 3) := by decide +kernel
theorem dL_law_310 : decode cL_law 310 = .ok (.iconst 0, 1) := by decide +kernel
theorem dL_law_311 : decode cL_law 311 = .ok (.ireturn, 1) := by decide +kernel
theorem dL_law_312 : decode cL_law 312 = .ok (.iload 5, 2) := by decide +kernel
theorem dL_law_314 : decode cL_law 314 = .ok (.ifCond .ne 15, 3) := by decide +kernel
theorem dL_law_317 : decode cL_law 317 = .ok (.aload_n 3, 1) := by decide +kernel
theorem dL_law_318 : decode cL_law 318 = .ok (.iconst 0, 1) := by decide +kernel
theorem dL_law_319 : decode cL_law 319 = .ok (.laload, 1) := by decide +kernel
theorem dL_law_320 : decode cL_law 320 = .ok (.iload 6, 2) := by decide +kernel
theorem dL_law_322 : decode cL_law 322 = .ok (.i2l, 1) := by decide +kernel
theorem dL_law_323 : decode cL_law 323 = .ok (.lcmp, 1) := by decide +kernel
theorem dL_law_324 : decode cL_law 324 = .ok (.ifCond .eq 5, 3) := by decide +kernel
theorem dL_law_327 : decode cL_law 327 = .ok (.iconst 0, 1) := by decide +kernel
theorem dL_law_328 : decode cL_law 328 = .ok (.ireturn, 1) := by decide +kernel
theorem dL_law_329 : decode cL_law 329 = .ok (.goto 341, 3) := by decide +kernel
theorem dL_law_332 : decode cL_law 332 = .ok (.aload_n 1, 1) := by decide +kernel
theorem dL_law_333 : decode cL_law 333 = .ok (.aload_n 0, 1) := by decide +kernel
theorem dL_law_334 : decode cL_law 334 = .ok (.iload 4, 2) := by decide +kernel
theorem dL_law_336 : decode cL_law 336 = .ok (.iconst 1, 1) := by decide +kernel
theorem dL_law_337 : decode cL_law 337 = .ok (.iadd, 1) := by decide +kernel
theorem dL_law_338 : decode cL_law 338 = .ok (.iaload, 1) := by decide +kernel
theorem dL_law_339 : decode cL_law 339 = .ok (.invokevirtual 69, 3) := by decide +kernel
theorem dL_law_342 : decode cL_law 342 = .ok (.aload_n 2, 1) := by decide +kernel
theorem dL_law_343 : decode cL_law 343 = .ok (.aload_n 0, 1) := by decide +kernel
theorem dL_law_344 : decode cL_law 344 = .ok (.iload 4, 2) := by decide +kernel
theorem dL_law_346 : decode cL_law 346 = .ok (.iconst 1, 1) := by decide +kernel
theorem dL_law_347 : decode cL_law 347 = .ok (.iadd, 1) := by decide +kernel
theorem dL_law_348 : decode cL_law 348 = .ok (.iaload, 1) := by decide +kernel
theorem dL_law_349 : decode cL_law 349 = .ok (.invokevirtual 72, 3) := by decide +kernel
theorem dL_law_352 : decode cL_law 352 = .ok (.if_icmp .eq 318, 3) := by decide +kernel
theorem dL_law_355 : decode cL_law 355 = .ok (.iconst 0, 1) := by decide +kernel
theorem dL_law_356 : decode cL_law 356 = .ok (.ireturn, 1) := by decide +kernel
theorem dL_law_357 : decode cL_law 357 = .ok (.aload_n 1, 1) := by decide +kernel
theorem dL_law_358 : decode cL_law 358 = .ok (.aload_n 0, 1) := by decide +kernel
theorem dL_law_359 : decode cL_law 359 = .ok (.iload 4, 2) := by decide +kernel
theorem dL_law_361 : decode cL_law 361 = .ok (.iconst 1, 1) := by decide +kernel
theorem dL_law_362 : decode cL_law 362 = .ok (.iadd, 1) := by decide +kernel
theorem dL_law_363 : decode cL_law 363 = .ok (.iaload, 1) := by decide +kernel
theorem dL_law_364 : decode cL_law 364 = .ok (.aload_n 0, 1) := by decide +kernel
theorem dL_law_365 : decode cL_law 365 = .ok (.iload 4, 2) := by decide +kernel
theorem dL_law_367 : decode cL_law 367 = .ok (.iconst 2, 1) := by decide +kernel
theorem dL_law_368 : decode cL_law 368 = .ok (.iadd, 1) := by decide +kernel
theorem dL_law_369 : decode cL_law 369 = .ok (.iaload, 1) := by decide +kernel
theorem dL_law_370 : decode cL_law 370 = .ok (.aload_n 0, 1) := by decide +kernel
theorem dL_law_371 : decode cL_law 371 = .ok (.iload 4, 2) := by decide +kernel
theorem dL_law_373 : decode cL_law 373 = .ok (.iconst 3, 1) := by decide +kernel
theorem dL_law_374 : decode cL_law 374 = .ok (.iadd, 1) := by decide +kernel
theorem dL_law_375 : decode cL_law 375 = .ok (.iaload, 1) := by decide +kernel
theorem dL_law_376 : decode cL_law 376 = .ok (.aload_n 3, 1) := by decide +kernel
theorem dL_law_377 : decode cL_law 377 = .ok (.invokestatic 73, 3) := by decide +kernel
theorem dL_law_380 : decode cL_law 380 = .ok (.istore 5, 2) := by decide +kernel
theorem dL_law_382 : decode cL_law 382 = .ok (.aload_n 2, 1) := by decide +kernel
theorem dL_law_383 : decode cL_law 383 = .ok (.aload_n 0, 1) := by decide +kernel
theorem dL_law_384 : decode cL_law 384 = .ok (.iload 4, 2) := by decide +kernel
theorem dL_law_386 : decode cL_law 386 = .ok (.iconst 1, 1) := by decide +kernel
theorem dL_law_387 : decode cL_law 387 = .ok (.iadd, 1) := by decide +kernel
theorem dL_law_388 : decode cL_law 388 = .ok (.iaload, 1) := by decide +kernel
theorem dL_law_389 : decode cL_law 389 = .ok (.aload_n 0, 1) := by decide +kernel
theorem dL_law_390 : decode cL_law 390 = .ok (.iload 4, 2) := by decide +kernel
theorem dL_law_392 : decode cL_law 392 = .ok (.iconst 2, 1) := by decide +kernel
theorem dL_law_393 : decode cL_law 393 = .ok (.iadd, 1) := by decide +kernel
theorem dL_law_394 : decode cL_law 394 = .ok (.iaload, 1) := by decide +kernel
theorem dL_law_395 : decode cL_law 395 = .ok (.aload_n 0, 1) := by decide +kernel
theorem dL_law_396 : decode cL_law 396 = .ok (.iload 4, 2) := by decide +kernel
theorem dL_law_398 : decode cL_law 398 = .ok (.iconst 3, 1) := by decide +kernel
theorem dL_law_399 : decode cL_law 399 = .ok (.iadd, 1) := by decide +kernel
theorem dL_law_400 : decode cL_law 400 = .ok (.iaload, 1) := by decide +kernel
theorem dL_law_401 : decode cL_law 401 = .ok (.invokevirtual 76, 3) := by decide +kernel
theorem dL_law_404 : decode cL_law 404 = .ok (.istore 6, 2) := by decide +kernel
theorem dL_law_406 : decode cL_law 406 = .ok (.aload_n 2, 1) := by decide +kernel
theorem dL_law_407 : decode cL_law 407 = .ok (.invokevirtual 52, 3) := by decide +kernel
theorem dL_law_410 : decode cL_law 410 = .ok (.iload 5, 2) := by decide +kernel
theorem dL_law_412 : decode cL_law 412 = .ok (.if_icmp .eq 5, 3) := by decide +kernel
theorem dL_law_415 : decode cL_law 415 = .ok (.iconst 0, 1) := by decide +kernel
theorem dL_law_416 : decode cL_law 416 = .ok (.ireturn, 1) := by decide +kernel
theorem dL_law_417 : decode cL_law 417 = .ok (.iload 5, 2) := by decide +kernel
theorem dL_law_419 : decode cL_law 419 = .ok (.ifCond .ne 15, 3) := by decide +kernel
theorem dL_law_422 : decode cL_law 422 = .ok (.aload_n 3, 1) := by decide +kernel
theorem dL_law_423 : decode cL_law 423 = .ok (.iconst 0, 1) := by decide +kernel
theorem dL_law_424 : decode cL_law 424 = .ok (.laload, 1) := by decide +kernel
theorem dL_law_425 : decode cL_law 425 = .ok (.iload 6, 2) := by decide +kernel
theorem dL_law_427 : decode cL_law 427 = .ok (.i2l, 1) := by decide +kernel
theorem dL_law_428 : decode cL_law 428 = .ok (.lcmp, 1) := by decide +kernel
theorem dL_law_429 : decode cL_law 429 = .ok (.ifCond .eq 5, 3) := by decide +kernel
theorem dL_law_432 : decode cL_law 432 = .ok (.iconst 0, 1) := by decide +kernel
theorem dL_law_433 : decode cL_law 433 = .ok (.ireturn, 1) := by decide +kernel
theorem dL_law_434 : decode cL_law 434 = .ok (.goto 236, 3) := by decide +kernel
theorem dL_law_437 : decode cL_law 437 = .ok (.aload_n 1, 1) := by decide +kernel
theorem dL_law_438 : decode cL_law 438 = .ok (.aload_n 0, 1) := by decide +kernel
theorem dL_law_439 : decode cL_law 439 = .ok (.iload 4, 2) := by decide +kernel
theorem dL_law_441 : decode cL_law 441 = .ok (.iconst 1, 1) := by decide +kernel
theorem dL_law_442 : decode cL_law 442 = .ok (.iadd, 1) := by decide +kernel
theorem dL_law_443 : decode cL_law 443 = .ok (.iaload, 1) := by decide +kernel
theorem dL_law_444 : decode cL_law 444 = .ok (.i2l, 1) := by decide +kernel
theorem dL_law_445 : decode cL_law 445 = .ok (.bipush 32, 2) := by decide +kernel
theorem dL_law_447 : decode cL_law 447 = .ok (.lshl, 1) := by decide +kernel
theorem dL_law_448 : decode cL_law 448 = .ok (.aload_n 0, 1) := by decide +kernel
theorem dL_law_449 : decode cL_law 449 = .ok (.iload 4, 2) := by decide +kernel
theorem dL_law_451 : decode cL_law 451 = .ok (.iconst 2, 1) := by decide +kernel
theorem dL_law_452 : decode cL_law 452 = .ok (.iadd, 1) := by decide +kernel
theorem dL_law_453 : decode cL_law 453 = .ok (.iaload, 1) := by decide +kernel
theorem dL_law_454 : decode cL_law 454 = .ok (.i2l, 1) := by decide +kernel
theorem dL_law_455 : decode cL_law 455 = .ok (.ldc2_w 77, 3) := by decide +kernel
theorem dL_law_458 : decode cL_law 458 = .ok (.land, 1) := by decide +kernel
theorem dL_law_459 : decode cL_law 459 = .ok (.lor, 1) := by decide +kernel
theorem dL_law_460 : decode cL_law 460 = .ok (.aload_n 0, 1) := by decide +kernel
theorem dL_law_461 : decode cL_law 461 = .ok (.iload 4, 2) := by decide +kernel
theorem dL_law_463 : decode cL_law 463 = .ok (.iconst 3, 1) := by decide +kernel
theorem dL_law_464 : decode cL_law 464 = .ok (.iadd, 1) := by decide +kernel
theorem dL_law_465 : decode cL_law 465 = .ok (.iaload, 1) := by decide +kernel
theorem dL_law_466 : decode cL_law 466 = .ok (.invokevirtual 79, 3) := by decide +kernel
theorem dL_law_469 : decode cL_law 469 = .ok (.aload_n 2, 1) := by decide +kernel
theorem dL_law_470 : decode cL_law 470 = .ok (.aload_n 0, 1) := by decide +kernel
theorem dL_law_471 : decode cL_law 471 = .ok (.iload 4, 2) := by decide +kernel
theorem dL_law_473 : decode cL_law 473 = .ok (.iconst 1, 1) := by decide +kernel
theorem dL_law_474 : decode cL_law 474 = .ok (.iadd, 1) := by decide +kernel
theorem dL_law_475 : decode cL_law 475 = .ok (.iaload, 1) := by decide +kernel
theorem dL_law_476 : decode cL_law 476 = .ok (.i2l, 1) := by decide +kernel
theorem dL_law_477 : decode cL_law 477 = .ok (.bipush 32, 2) := by decide +kernel
theorem dL_law_479 : decode cL_law 479 = .ok (.lshl, 1) := by decide +kernel
theorem dL_law_480 : decode cL_law 480 = .ok (.aload_n 0, 1) := by decide +kernel
theorem dL_law_481 : decode cL_law 481 = .ok (.iload 4, 2) := by decide +kernel
theorem dL_law_483 : decode cL_law 483 = .ok (.iconst 2, 1) := by decide +kernel
theorem dL_law_484 : decode cL_law 484 = .ok (.iadd, 1) := by decide +kernel
theorem dL_law_485 : decode cL_law 485 = .ok (.iaload, 1) := by decide +kernel
theorem dL_law_486 : decode cL_law 486 = .ok (.i2l, 1) := by decide +kernel
theorem dL_law_487 : decode cL_law 487 = .ok (.ldc2_w 77, 3) := by decide +kernel
theorem dL_law_490 : decode cL_law 490 = .ok (.land, 1) := by decide +kernel
theorem dL_law_491 : decode cL_law 491 = .ok (.lor, 1) := by decide +kernel
theorem dL_law_492 : decode cL_law 492 = .ok (.aload_n 0, 1) := by decide +kernel
theorem dL_law_493 : decode cL_law 493 = .ok (.iload 4, 2) := by decide +kernel
theorem dL_law_495 : decode cL_law 495 = .ok (.iconst 3, 1) := by decide +kernel
theorem dL_law_496 : decode cL_law 496 = .ok (.iadd, 1) := by decide +kernel
theorem dL_law_497 : decode cL_law 497 = .ok (.iaload, 1) := by decide +kernel
theorem dL_law_498 : decode cL_law 498 = .ok (.invokevirtual 83, 3) := by decide +kernel
theorem dL_law_501 : decode cL_law 501 = .ok (.if_icmp .eq 169, 3) := by decide +kernel
theorem dL_law_504 : decode cL_law 504 = .ok (.iconst 0, 1) := by decide +kernel
theorem dL_law_505 : decode cL_law 505 = .ok (.ireturn, 1) := by decide +kernel
theorem dL_law_506 : decode cL_law 506 = .ok (.aload_n 1, 1) := by decide +kernel
theorem dL_law_507 : decode cL_law 507 = .ok (.invokevirtual 84, 3) := by decide +kernel
theorem dL_law_510 : decode cL_law 510 = .ok (.aload_n 2, 1) := by decide +kernel
theorem dL_law_511 : decode cL_law 511 = .ok (.invokevirtual 87, 3) := by decide +kernel
theorem dL_law_514 : decode cL_law 514 = .ok (.if_icmp .eq 156, 3) := by decide +kernel
theorem dL_law_517 : decode cL_law 517 = .ok (.iconst 0, 1) := by decide +kernel
theorem dL_law_518 : decode cL_law 518 = .ok (.ireturn, 1) := by decide +kernel
theorem dL_law_519 : decode cL_law 519 = .ok (.aload_n 1, 1) := by decide +kernel
theorem dL_law_520 : decode cL_law 520 = .ok (.aload_n 3, 1) := by decide +kernel
theorem dL_law_521 : decode cL_law 521 = .ok (.invokestatic 88, 3) := by decide +kernel
theorem dL_law_524 : decode cL_law 524 = .ok (.istore 5, 2) := by decide +kernel
theorem dL_law_526 : decode cL_law 526 = .ok (.aload_n 2, 1) := by decide +kernel
theorem dL_law_527 : decode cL_law 527 = .ok (.invokevirtual 90, 3) := by decide +kernel
theorem dL_law_530 : decode cL_law 530 = .ok (.istore 6, 2) := by decide +kernel
theorem dL_law_532 : decode cL_law 532 = .ok (.aload_n 2, 1) := by decide +kernel
theorem dL_law_533 : decode cL_law 533 = .ok (.invokevirtual 52, 3) := by decide +kernel
theorem dL_law_536 : decode cL_law 536 = .ok (.iload 5, 2) := by decide +kernel
theorem dL_law_538 : decode cL_law 538 = .ok (.if_icmp .eq 5, 3) := by decide +kernel
theorem dL_law_541 : decode cL_law 541 = .ok (.iconst 0, 1) := by decide +kernel
theorem dL_law_542 : decode cL_law 542 = .ok (.ireturn, 1) := by decide +kernel
theorem dL_law_543 : decode cL_law 543 = .ok (.iload 5, 2) := by decide +kernel
theorem dL_law_545 : decode cL_law 545 = .ok (.ifCond .ne 15, 3) := by decide +kernel
theorem dL_law_548 : decode cL_law 548 = .ok (.aload_n 3, 1) := by decide +kernel
theorem dL_law_549 : decode cL_law 549 = .ok (.iconst 0, 1) := by decide +kernel
theorem dL_law_550 : decode cL_law 550 = .ok (.laload, 1) := by decide +kernel
theorem dL_law_551 : decode cL_law 551 = .ok (.iload 6, 2) := by decide +kernel
theorem dL_law_553 : decode cL_law 553 = .ok (.i2l, 1) := by decide +kernel
theorem dL_law_554 : decode cL_law 554 = .ok (.lcmp, 1) := by decide +kernel
theorem dL_law_555 : decode cL_law 555 = .ok (.ifCond .eq 5, 3) := by decide +kernel
theorem dL_law_558 : decode cL_law 558 = .ok (.iconst 0, 1) := by decide +kernel
theorem dL_law_559 : decode cL_law 559 = .ok (.ireturn, 1) := by decide +kernel
theorem dL_law_560 : decode cL_law 560 = .ok (.goto 110, 3) := by decide +kernel
theorem dL_law_563 : decode cL_law 563 = .ok (.aload_n 1, 1) := by decide +kernel
theorem dL_law_564 : decode cL_law 564 = .ok (.invokevirtual 91, 3) := by decide +kernel
theorem dL_law_567 : decode cL_law 567 = .ok (.aload_n 2, 1) := by decide +kernel
theorem dL_law_568 : decode cL_law 568 = .ok (.invokevirtual 94, 3) := by decide +kernel
theorem dL_law_571 : decode cL_law 571 = .ok (.if_icmp .eq 99, 3) := by decide +kernel
theorem dL_law_574 : decode cL_law 574 = .ok (.iconst 0, 1) := by decide +kernel
theorem dL_law_575 : decode cL_law 575 = .ok (.ireturn, 1) := by decide +kernel
theorem dL_law_576 : decode cL_law 576 = .ok (.aload_n 1, 1) := by decide +kernel
theorem dL_law_577 : decode cL_law 577 = .ok (.invokevirtual 95, 3) := by decide +kernel
theorem dL_law_580 : decode cL_law 580 = .ok (.aload_n 2, 1) := by decide +kernel
theorem dL_law_581 : decode cL_law 581 = .ok (.invokevirtual 98, 3) := by decide +kernel
theorem dL_law_584 : decode cL_law 584 = .ok (.if_icmp .eq 86, 3) := by decide +kernel
theorem dL_law_587 : decode cL_law 587 = .ok (.iconst 0, 1) := by decide +kernel
theorem dL_law_588 : decode cL_law 588 = .ok (.ireturn, 1) := by decide +kernel
theorem dL_law_589 : decode cL_law 589 = .ok (.aload_n 1, 1) := by decide +kernel
theorem dL_law_590 : decode cL_law 590 = .ok (.aload_n 0, 1) := by decide +kernel
theorem dL_law_591 : decode cL_law 591 = .ok (.iload 4, 2) := by decide +kernel
theorem dL_law_593 : decode cL_law 593 = .ok (.iconst 1, 1) := by decide +kernel
theorem dL_law_594 : decode cL_law 594 = .ok (.iadd, 1) := by decide +kernel
theorem dL_law_595 : decode cL_law 595 = .ok (.iaload, 1) := by decide +kernel
theorem dL_law_596 : decode cL_law 596 = .ok (.aload_n 3, 1) := by decide +kernel
theorem dL_law_597 : decode cL_law 597 = .ok (.invokestatic 99, 3) := by decide +kernel
theorem dL_law_600 : decode cL_law 600 = .ok (.istore 5, 2) := by decide +kernel
theorem dL_law_602 : decode cL_law 602 = .ok (.aload_n 2, 1) := by decide +kernel
theorem dL_law_603 : decode cL_law 603 = .ok (.aload_n 0, 1) := by decide +kernel
theorem dL_law_604 : decode cL_law 604 = .ok (.iload 4, 2) := by decide +kernel
theorem dL_law_606 : decode cL_law 606 = .ok (.iconst 1, 1) := by decide +kernel
theorem dL_law_607 : decode cL_law 607 = .ok (.iadd, 1) := by decide +kernel
theorem dL_law_608 : decode cL_law 608 = .ok (.iaload, 1) := by decide +kernel
theorem dL_law_609 : decode cL_law 609 = .ok (.invokevirtual 102, 3) := by decide +kernel
theorem dL_law_612 : decode cL_law 612 = .ok (.istore 6, 2) := by decide +kernel
theorem dL_law_614 : decode cL_law 614 = .ok (.aload_n 2, 1) := by decide +kernel
theorem dL_law_615 : decode cL_law 615 = .ok (.invokevirtual 52, 3) := by decide +kernel
theorem dL_law_618 : decode cL_law 618 = .ok (.iload 5, 2) := by decide +kernel
theorem dL_law_620 : decode cL_law 620 = .ok (.if_icmp .eq 5, 3) := by decide +kernel
theorem dL_law_623 : decode cL_law 623 = .ok (.iconst 0, 1) := by decide +kernel
theorem dL_law_624 : decode cL_law 624 = .ok (.ireturn, 1) := by decide +kernel
theorem dL_law_625 : decode cL_law 625 = .ok (.iload 5, 2) := by decide +kernel
theorem dL_law_627 : decode cL_law 627 = .ok (.ifCond .ne 15, 3) := by decide +kernel
theorem dL_law_630 : decode cL_law 630 = .ok (.aload_n 3, 1) := by decide +kernel
theorem dL_law_631 : decode cL_law 631 = .ok (.iconst 0, 1) := by decide +kernel
theorem dL_law_632 : decode cL_law 632 = .ok (.laload, 1) := by decide +kernel
theorem dL_law_633 : decode cL_law 633 = .ok (.iload 6, 2) := by decide +kernel
theorem dL_law_635 : decode cL_law 635 = .ok (.i2l, 1) := by decide +kernel
theorem dL_law_636 : decode cL_law 636 = .ok (.lcmp, 1) := by decide +kernel
theorem dL_law_637 : decode cL_law 637 = .ok (.ifCond .eq 5, 3) := by decide +kernel
theorem dL_law_640 : decode cL_law 640 = .ok (.iconst 0, 1) := by decide +kernel
theorem dL_law_641 : decode cL_law 641 = .ok (.ireturn, 1) := by decide +kernel
theorem dL_law_642 : decode cL_law 642 = .ok (.goto 28, 3) := by decide +kernel
theorem dL_law_645 : decode cL_law 645 = .ok (.aload_n 1, 1) := by decide +kernel
theorem dL_law_646 : decode cL_law 646 = .ok (.aload_n 0, 1) := by decide +kernel
theorem dL_law_647 : decode cL_law 647 = .ok (.iload 4, 2) := by decide +kernel
theorem dL_law_649 : decode cL_law 649 = .ok (.iconst 1, 1) := by decide +kernel
theorem dL_law_650 : decode cL_law 650 = .ok (.iadd, 1) := by decide +kernel
theorem dL_law_651 : decode cL_law 651 = .ok (.iaload, 1) := by decide +kernel
theorem dL_law_652 : decode cL_law 652 = .ok (.invokevirtual 103, 3) := by decide +kernel
theorem dL_law_655 : decode cL_law 655 = .ok (.aload_n 2, 1) := by decide +kernel
theorem dL_law_656 : decode cL_law 656 = .ok (.aload_n 0, 1) := by decide +kernel
theorem dL_law_657 : decode cL_law 657 = .ok (.iload 4, 2) := by decide +kernel
theorem dL_law_659 : decode cL_law 659 = .ok (.iconst 1, 1) := by decide +kernel
theorem dL_law_660 : decode cL_law 660 = .ok (.iadd, 1) := by decide +kernel
theorem dL_law_661 : decode cL_law 661 = .ok (.iaload, 1) := by decide +kernel
theorem dL_law_662 : decode cL_law 662 = .ok (.invokevirtual 106, 3) := by decide +kernel
theorem dL_law_665 : decode cL_law 665 = .ok (.if_icmp .eq 5, 3) := by decide +kernel
theorem dL_law_668 : decode cL_law 668 = .ok (.iconst 0, 1) := by decide +kernel
theorem dL_law_669 : decode cL_law 669 = .ok (.ireturn, 1) := by decide +kernel
theorem dL_law_670 : decode cL_law 670 = .ok (.iinc 4 5, 3) := by decide +kernel
theorem dL_law_673 : decode cL_law 673 = .ok (.goto (-650), 3) := by decide +kernel
theorem dL_law_676 : decode cL_law 676 = .ok (.iconst 1, 1) := by decide +kernel
theorem dL_law_677 : decode cL_law 677 = .ok (.ireturn, 1) := by decide +kernel
