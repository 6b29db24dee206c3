theorem dX4_readSubframe_81 : decode cX4_readSubframe 81 = .ok (.ifCond .ne 23, 3) := by decide +kernel
theorem dX4_readSubframe_84 : decode cX4_readSubframe 84 = .ok (.aload_n 1, 1) := by decide +kernel
theorem dX4_readSubframe_85 : decode cX4_readSubframe 85 = .ok (.iconst 0, 1) := by decide +kernel
theorem dX4_readSubframe_86 : decode cX4_readSubframe 86 = .ok (.iload_n 2, 1) := by decide +kernel
theorem dX4_readSubframe_87 : decode cX4_readSubframe 87 = .ok (.aload_n 0, 1) := by decide +kernel
theorem dX4_readSubframe_88 : decode cX4_readSubframe 88 = .ok (.iload 7, 2) := by decide +kernel
theorem dX4_readSubframe_90 : decode cX4_readSubframe 90 = .ok (.invokevirtual 98, 3) := by decide +kernel
theorem dX4_readSubframe_93 : decode cX4_readSubframe 93 = .ok (.iload 7, 2) := by decide +kernel
theorem dX4_readSubframe_95 : decode cX4_readSubframe 95 = .ok (.invokestatic 205, 3) := by decide +kernel
theorem dX4_readSubframe_98 : decode cX4_readSubframe 98 = .ok (.invokestatic 209, 3) := by decide +kernel
theorem dX4_readSubframe_101 : decode cX4_readSubframe 101 = .ok (.goto 45, 3) := by decide +kernel
theorem dX4_readSubframe_104 : decode cX4_readSubframe 104 = .ok (.iload 4, 2) := by decide +kernel
theorem dX4_readSubframe_106 : decode cX4_readSubframe 106 = .ok (.iconst 1, 1) := by decide +kernel
theorem dX4_readSubframe_107 : decode cX4_readSubframe 107 = .ok (.if_icmp .ne 14, 3) := by decide +kernel
theorem dX4_readSubframe_110 : decode cX4_readSubframe 110 = .ok (.aload_n 0, 1) := by decide +kernel
theorem dX4_readSubframe_111 : decode cX4_readSubframe 111 = .ok (.aload_n 1, 1) := by decide +kernel
theorem dX4_readSubframe_112 : decode cX4_readSubframe 112 = .ok (.iload_n 2, 1) := by decide +kernel
theorem dX4_readSubframe_113 : decode cX4_readSubframe 113 = .ok (.iload 7, 2) := by decide +kernel
theorem dX4_readSubframe_115 : decode cX4_readSubframe 115 = .ok (.invokevirtual 215, 3) := by decide +kernel
theorem dX4_readSubframe_118 : decode cX4_readSubframe 118 = .ok (.goto 28, 3) := by decide +kernel
theorem dX4_readSubframe_121 : decode cX4_readSubframe 121 = .ok (.aload_n 0, 1) := by decide +kernel
theorem dX4_readSubframe_122 : decode cX4_readSubframe 122 = .ok (.aload_n 1, 1) := by decide +kernel
theorem dX4_readSubframe_123 : decode cX4_readSubframe 123 = .ok (.iload 5, 2) := by decide +kernel
theorem dX4_readSubframe_125 : decode cX4_readSubframe 125 = .ok (.iload 7, 2) := by decide +kernel
theorem dX4_readSubframe_127 : decode cX4_readSubframe 127 = .ok (.invokevirtual 215, 3) := by decide +kernel
theorem dX4_readSubframe_130 : decode cX4_readSubframe 130 = .ok (.aload_n 0, 1) := by decide +kernel
theorem dX4_readSubframe_131 : decode cX4_readSubframe 131 = .ok (.iload 4, 2) := by decide +kernel
theorem dX4_readSubframe_133 : decode cX4_readSubframe 133 = .ok (.iload 5, 2) := by decide +kernel
theorem dX4_readSubframe_135 : decode cX4_readSubframe 135 = .ok (.invokevirtual 218, 3) := by decide +kernel
theorem dX4_readSubframe_138 : decode cX4_readSubframe 138 = .ok (.aload_n 0, 1) := by decide +kernel
theorem dX4_readSubframe_139 : decode cX4_readSubframe 139 = .ok (.aload_n 1, 1) := by decide +kernel
theorem dX4_readSubframe_140 : decode cX4_readSubframe 140 = .ok (.iload_n 2, 1) := by decide +kernel
theorem dX4_readSubframe_141 : decode cX4_readSubframe 141 = .ok (.iload 7, 2) := by decide +kernel
theorem dX4_readSubframe_143 : decode cX4_readSubframe 143 = .ok (.invokevirtual 221, 3) := by decide +kernel
theorem dX4_readSubframe_146 : decode cX4_readSubframe 146 = .ok (.iconst 0, 1) := by decide +kernel
theorem dX4_readSubframe_147 : decode cX4_readSubframe 147 = .ok (.istore 8, 2) := by decide +kernel
theorem dX4_readSubframe_149 : decode cX4_readSubframe 149 = .ok (.iload 8, 2) := by decide +kernel
theorem dX4_readSubframe_151 : decode cX4_readSubframe 151 = .ok (.iload_n 2, 1) := by decide +kernel
theorem dX4_readSubframe_152 : decode cX4_readSubframe 152 = .ok (.if_icmp .ge 18, 3) := by decide +kernel
theorem dX4_readSubframe_155 : decode cX4_readSubframe 155 = .ok (.aload_n 1, 1) := by decide +kernel
theorem dX4_readSubframe_156 : decode cX4_readSubframe 156 = .ok (.iload 8, 2) := by decide +kernel
theorem dX4_readSubframe_158 : decode cX4_readSubframe 158 = .ok (.dup2, 1) := by decide +kernel
theorem dX4_readSubframe_159 : decode cX4_readSubframe 159 = .ok (.iaload, 1) := by decide +kernel
theorem dX4_readSubframe_160 : decode cX4_readSubframe 160 = .ok (.iload 6, 2) := by decide +kernel
theorem dX4_readSubframe_162 : decode cX4_readSubframe 162 = .ok (.ishl, 1) := by decide +kernel
theorem dX4_readSubframe_163 : decode cX4_readSubframe 163 = .ok (.iastore, 1) := by decide +kernel
theorem dX4_readSubframe_164 : decode cX4_readSubframe 164 = .ok (.iinc 8 1, 3) := by decide +kernel
theorem dX4_readSubframe_167 : decode cX4_readSubframe 167 = .ok (.goto (-18), 3) := by decide +kernel
theorem dX4_readSubframe_170 : decode cX4_readSubframe 170 = .ok (.return_, 1) := by decide +kernel
theorem dX4_orderOf_0 : decode cX4_orderOf 0 = .ok (.iload_n 0, 1) := by decide +kernel
theorem dX4_orderOf_1 : decode cX4_orderOf 1 = .ok (.ifCond .eq 8, 3) := by decide +kernel
theorem dX4_orderOf_4 : decode cX4_orderOf 4 = .ok (.iload_n 0, 1) := by decide +kernel
theorem dX4_orderOf_5 : decode cX4_orderOf 5 = .ok (.iconst 1, 1) := by decide +kernel
theorem dX4_orderOf_6 : decode cX4_orderOf 6 = .ok (.if_icmp .ne 5, 3) := by decide +kernel
theorem dX4_orderOf_9 : decode cX4_orderOf 9 = .ok (.iconst 0, 1) := by decide +kernel
theorem dX4_orderOf_10 : decode cX4_orderOf 10 = .ok (.ireturn, 1) := by decide +kernel
theorem dX4_orderOf_11 : decode cX4_orderOf 11 = .ok (.iload_n 0, 1) := by decide +kernel
theorem dX4_orderOf_12 : decode cX4_orderOf 12 = .ok (.i2l, 1) := by decide +kernel
theorem dX4_orderOf_13 : decode cX4_orderOf 13 = .ok (.ldc2_w 177, 3) := by decide +kernel
theorem dX4_orderOf_16 : decode cX4_orderOf 16 = .ok (.ldc2_w 224, 3) := by decide +kernel
theorem dX4_orderOf_19 : decode cX4_orderOf 19 = .ok (.invokestatic 115, 3) := by decide +kernel
theorem dX4_orderOf_22 : decode cX4_orderOf 22 = .ok (.ifCond .eq 8, 3) := by decide +kernel
theorem dX4_orderOf_25 : decode cX4_orderOf 25 = .ok (.iload_n 0, 1) := by decide +kernel
theorem dX4_orderOf_26 : decode cX4_orderOf 26 = .ok (.bipush 8, 2) := by decide +kernel
theorem dX4_orderOf_28 : decode cX4_orderOf 28 = .ok (.isub, 1) := by decide +kernel
theorem dX4_orderOf_29 : decode cX4_orderOf 29 = .ok (.ireturn, 1) := by decide +kernel
theorem dX4_orderOf_30 : decode cX4_orderOf 30 = .ok (.iload_n 0, 1) := by decide +kernel
theorem dX4_orderOf_31 : decode cX4_orderOf 31 = .ok (.i2l, 1) := by decide +kernel
theorem dX4_orderOf_32 : decode cX4_orderOf 32 = .ok (.ldc2_w 226, 3) := by decide +kernel
theorem dX4_orderOf_35 : decode cX4_orderOf 35 = .ok (.ldc2_w 228, 3) := by decide +kernel
theorem dX4_orderOf_38 : decode cX4_orderOf 38 = .ok (.invokestatic 115, 3) := by decide +kernel
theorem dX4_orderOf_41 : decode cX4_orderOf 41 = .ok (.ifCond .eq 10, 3) := by decide +kernel
theorem dX4_orderOf_44 : decode cX4_orderOf 44 = .ok (.iload_n 0, 1) := by decide +kernel
theorem dX4_orderOf_45 : decode cX4_orderOf 45 = .ok (.bipush 31, 2) := by decide +kernel
theorem dX4_orderOf_47 : decode cX4_orderOf 47 = .ok (.isub, 1) := by decide +kernel
theorem dX4_orderOf_48 : decode cX4_orderOf 48 = .ok (.goto 4, 3) := by decide +kernel
theorem dX4_orderOf_51 : decode cX4_orderOf 51 = .ok (.iconst (-1), 1) := by decide +kernel
theorem dX4_orderOf_52 : decode cX4_orderOf 52 = .ok (.ireturn, 1) := by decide +kernel
theorem dX4_readNumbers_0 : decode cX4_readNumbers 0 = .ok (.iconst 0, 1) := by decide +kernel
theorem dX4_readNumbers_1 : decode cX4_readNumbers 1 = .ok (.istore 4, 2) := by decide +kernel
theorem dX4_readNumbers_3 : decode cX4_readNumbers 3 = .ok (.iload 4, 2) := by decide +kernel
theorem dX4_readNumbers_5 : decode cX4_readNumbers 5 = .ok (.iload_n 2, 1) := by decide +kernel
theorem dX4_readNumbers_6 : decode cX4_readNumbers 6 = .ok (.if_icmp .ge 22, 3) := by decide +kernel
theorem dX4_readNumbers_9 : decode cX4_readNumbers 9 = .ok (.aload_n 1, 1) := by decide +kernel
theorem dX4_readNumbers_10 : decode cX4_readNumbers 10 = .ok (.iload 4, 2) := by decide +kernel
theorem dX4_readNumbers_12 : decode cX4_readNumbers 12 = .ok (.aload_n 0, 1) := by decide +kernel
theorem dX4_readNumbers_13 : decode cX4_readNumbers 13 = .ok (.iload_n 3, 1) := by decide +kernel
theorem dX4_readNumbers_14 : decode cX4_readNumbers 14 = .ok (.invokevirtual 98, 3) := by decide +kernel
theorem dX4_readNumbers_17 : decode cX4_readNumbers 17 = .ok (.iload_n 3, 1) := by decide +kernel
theorem dX4_readNumbers_18 : decode cX4_readNumbers 18 = .ok (.invokestatic 205, 3) := by decide +kernel
theorem dX4_readNumbers_21 : decode cX4_readNumbers 21 = .ok (.iastore, 1) := by decide +kernel
theorem dX4_readNumbers_22 : decode cX4_readNumbers 22 = .ok (.iinc 4 1, 3) := by decide +kernel
theorem dX4_readNumbers_25 : decode cX4_readNumbers 25 = .ok (.goto (-22), 3) := by decide +kernel
theorem dX4_readNumbers_28 : decode cX4_readNumbers 28 = .ok (.return_, 1) := by decide +kernel
theorem dX4_readPredictor_0 : decode cX4_readPredictor 0 = .ok (.iload_n 1, 1) := by decide +kernel
theorem dX4_readPredictor_1 : decode cX4_readPredictor 1 = .ok (.bipush 31, 2) := by decide +kernel
theorem dX4_readPredictor_3 : decode cX4_readPredictor 3 = .ok (.if_icmp .gt 12, 3) := by decide +kernel
theorem dX4_readPredictor_6 : decode cX4_readPredictor 6 = .ok (.aload_n 0, 1) := by decide +kernel
theorem dX4_readPredictor_7 : decode cX4_readPredictor 7 = .ok (.getfield 46, 3) := by decide +kernel
theorem dX4_readPredictor_10 : decode cX4_readPredictor 10 = .ok (.iload_n 2, 1) := by decide +kernel
theorem dX4_readPredictor_11 : decode cX4_readPredictor 11 = .ok (.invokevirtual 230, 3) := by decide +kernel
theorem dX4_readPredictor_14 : decode cX4_readPredictor 14 = .ok (.return_, 1) := by decide +kernel
theorem dX4_readPredictor_15 : decode cX4_readPredictor 15 = .ok (.aload_n 0, 1) := by decide +kernel
theorem dX4_readPredictor_16 : decode cX4_readPredictor 16 = .ok (.iconst 4, 1) := by decide +kernel
theorem dX4_readPredictor_17 : decode cX4_readPredictor 17 = .ok (.invokevirtual 98, 3) := by decide +kernel
theorem dX4_readPredictor_20 : decode cX4_readPredictor 20 = .ok (.l2i, 1) := by decide +kernel
theorem dX4_readPredictor_21 : decode cX4_readPredictor 21 = .ok (.iconst 1, 1) := by decide +kernel
theorem dX4_readPredictor_22 : decode cX4_readPredictor 22 = .ok (.iadd, 1) := by decide +kernel
theorem dX4_readPredictor_23 : decode cX4_readPredictor 23 = .ok (.istore_n 3, 1) := by decide +kernel
theorem dX4_readPredictor_24 : decode cX4_readPredictor 24 = .ok (.aload_n 0, 1) := by decide +kernel
theorem dX4_readPredictor_25 : decode cX4_readPredictor 25 = .ok (.iload_n 3, 1) := by decide +kernel
theorem dX4_readPredictor_26 : decode cX4_readPredictor 26 = .ok (.bipush 15, 2) := by decide +kernel
theorem dX4_readPredictor_28 : decode cX4_readPredictor 28 = .ok (.if_icmp .gt 7, 3) := by decide +kernel
theorem dX4_readPredictor_31 : decode cX4_readPredictor 31 = .ok (.iconst 1, 1) := by decide +kernel
theorem dX4_readPredictor_32 : decode cX4_readPredictor 32 = .ok (.goto 4, 3) := by decide +kernel
theorem dX4_readPredictor_35 : decode cX4_readPredictor 35 = .ok (.iconst 0, 1) := by decide +kernel
theorem dX4_readPredictor_36 : decode cX4_readPredictor 36 = .ok (.iconst 2, 1) := by decide +kernel
theorem dX4_readPredictor_37 : decode cX4_readPredictor 37 = .ok (.invokevirtual 119, 3) := by decide +kernel
theorem dX4_readPredictor_40 : decode cX4_readPredictor 40 = .ok (.aload_n 0, 1) := by decide +kernel
theorem dX4_readPredictor_41 : decode cX4_readPredictor 41 = .ok (.iconst 5, 1) := by decide +kernel
theorem dX4_readPredictor_42 : decode cX4_readPredictor 42 = .ok (.invokevirtual 98, 3) := by decide +kernel
theorem dX4_readPredictor_45 : decode cX4_readPredictor 45 = .ok (.l2i, 1) := by decide +kernel
theorem dX4_readPredictor_46 : decode cX4_readPredictor 46 = .ok (.istore 4, 2) := by decide +kernel
theorem dX4_readPredictor_48 : decode cX4_readPredictor 48 = .ok (.aload_n 0, 1) := by decide +kernel
theorem dX4_readPredictor_49 : decode cX4_readPredictor 49 = .ok (.iload 4, 2) := by decide +kernel
theorem dX4_readPredictor_51 : decode cX4_readPredictor 51 = .ok (.bipush 15, 2) := by decide +kernel
theorem dX4_readPredictor_53 : decode cX4_readPredictor 53 = .ok (.if_icmp .gt 7, 3) := by decide +kernel
theorem dX4_readPredictor_56 : decode cX4_readPredictor 56 = .ok (.iconst 1, 1) := by decide +kernel
theorem dX4_readPredictor_57 : decode cX4_readPredictor 57 = .ok (.goto 4, 3) := by decide +kernel
theorem dX4_readPredictor_60 : decode cX4_readPredictor 60 = .ok (.iconst 0, 1) := by decide +kernel
theorem dX4_readPredictor_61 : decode cX4_readPredictor 61 = .ok (.iconst 2, 1) := by decide +kernel
theorem dX4_readPredictor_62 : decode cX4_readPredictor 62 = .ok (.invokevirtual 119, 3) := by decide +kernel
theorem dX4_readPredictor_65 : decode cX4_readPredictor 65 = .ok (.aload_n 0, 1) := by decide +kernel
theorem dX4_readPredictor_66 : decode cX4_readPredictor 66 = .ok (.getfield 46, 3) := by decide +kernel
theorem dX4_readPredictor_69 : decode cX4_readPredictor 69 = .ok (.iload 4, 2) := by decide +kernel
theorem dX4_readPredictor_71 : decode cX4_readPredictor 71 = .ok (.invokevirtual 233, 3) := by decide +kernel
theorem dX4_readPredictor_74 : decode cX4_readPredictor 74 = .ok (.iconst 0, 1) := by decide +kernel
theorem dX4_readPredictor_75 : decode cX4_readPredictor 75 = .ok (.istore 5, 2) := by decide +kernel
theorem dX4_readPredictor_77 : decode cX4_readPredictor 77 = .ok (.iload 5, 2) := by decide +kernel
theorem dX4_readPredictor_79 : decode cX4_readPredictor 79 = .ok (.iload_n 2, 1) := by decide +kernel
theorem dX4_readPredictor_80 : decode cX4_readPredictor 80 = .ok (.if_icmp .ge 25, 3) := by decide +kernel
theorem dX4_readPredictor_83 : decode cX4_readPredictor 83 = .ok (.aload_n 0, 1) := by decide +kernel
theorem dX4_readPredictor_84 : decode cX4_readPredictor 84 = .ok (.getfield 46, 3) := by decide +kernel
theorem dX4_readPredictor_87 : decode cX4_readPredictor 87 = .ok (.aload_n 0, 1) := by decide +kernel
theorem dX4_readPredictor_88 : decode cX4_readPredictor 88 = .ok (.iload_n 3, 1) := by decide +kernel
theorem dX4_readPredictor_89 : decode cX4_readPredictor 89 = .ok (.invokevirtual 98, 3) := by decide +kernel
theorem dX4_readPredictor_92 : decode cX4_readPredictor 92 = .ok (.iload_n 3, 1) := by decide +kernel
theorem dX4_readPredictor_93 : decode cX4_readPredictor 93 = .ok (.invokestatic 205, 3) := by decide +kernel
theorem dX4_readPredictor_96 : decode cX4_readPredictor 96 = .ok (.invokevirtual 236, 3) := by decide +kernel
theorem dX4_readPredictor_99 : decode cX4_readPredictor 99 = .ok (.iinc 5 1, 3) := by decide +kernel
theorem dX4_readPredictor_102 : decode cX4_readPredictor 102 = .ok (.goto (-25), 3) := by decide +kernel
theorem dX4_readPredictor_105 : decode cX4_readPredictor 105 = .ok (.return_, 1) := by decide +kernel
theorem dX4_readResiduals_0 : decode cX4_readResiduals 0 = .ok (.aload_n 0, 1) := by decide +kernel
theorem dX4_readResiduals_1 : decode cX4_readResiduals 1 = .ok (.iconst 2, 1) := by decide +kernel
theorem dX4_readResiduals_2 : decode cX4_readResiduals 2 = .ok (.invokevirtual 98, 3) := by decide +kernel
theorem dX4_readResiduals_5 : decode cX4_readResiduals 5 = .ok (.l2i, 1) := by decide +kernel
theorem dX4_readResiduals_6 : decode cX4_readResiduals 6 = .ok (.istore 4, 2) := by decide +kernel
theorem dX4_readResiduals_8 : decode cX4_readResiduals 8 = .ok (.aload_n 0, 1) := by decide +kernel
theorem dX4_readResiduals_9 : decode cX4_readResiduals 9 = .ok (.iload 4, 2) := by decide +kernel
theorem dX4_readResiduals_11 : decode cX4_readResiduals 11 = .ok (.iconst 1, 1) := by decide +kernel
theorem dX4_readResiduals_12 : decode cX4_readResiduals 12 = .ok (.if_icmp .gt 7, 3) := by decide +kernel
theorem dX4_readResiduals_15 : decode cX4_readResiduals 15 = .ok (.iconst 1, 1) := by decide +kernel
theorem dX4_readResiduals_16 : decode cX4_readResiduals 16 = .ok (.goto 4, 3) := by decide +kernel
theorem dX4_readResiduals_19 : decode cX4_readResiduals 19 = .ok (.iconst 0, 1) := by decide +kernel
theorem dX4_readResiduals_20 : decode cX4_readResiduals 20 = .ok (.iconst 2, 1) := by decide +kernel
theorem dX4_readResiduals_21 : decode cX4_readResiduals 21 = .ok (.invokevirtual 119, 3) := by decide +kernel
theorem dX4_readResiduals_24 : decode cX4_readResiduals 24 = .ok (.aload_n 0, 1) := by decide +kernel
theorem dX4_readResiduals_25 : decode cX4_readResiduals 25 = .ok (.iconst 4, 1) := by decide +kernel
theorem dX4_readResiduals_26 : decode cX4_readResiduals 26 = .ok (.invokevirtual 98, 3) := by decide +kernel
theorem dX4_readResiduals_29 : decode cX4_readResiduals 29 = .ok (.l2i, 1) := by decide +kernel
theorem dX4_readResiduals_30 : decode cX4_readResiduals 30 = .ok (.istore 5, 2) := by decide +kernel
theorem dX4_readResiduals_32 : decode cX4_readResiduals 32 = .ok (.iconst 1, 1) := by decide +kernel
theorem dX4_readResiduals_33 : decode cX4_readResiduals 33 = .ok (.iload 5, 2) := by decide +kernel
theorem dX4_readResiduals_35 : decode cX4_readResiduals 35 = .ok (.ishl, 1) := by decide +kernel
theorem dX4_readResiduals_36 : decode cX4_readResiduals 36 = .ok (.istore 6, 2) := by decide +kernel
theorem dX4_readResiduals_38 : decode cX4_readResiduals 38 = .ok (.iload_n 2, 1) := by decide +kernel
theorem dX4_readResiduals_39 : decode cX4_readResiduals 39 = .ok (.iload 5, 2) := by decide +kernel
theorem dX4_readResiduals_41 : decode cX4_readResiduals 41 = .ok (.ishr, 1) := by decide +kernel
theorem dX4_readResiduals_42 : decode cX4_readResiduals 42 = .ok (.istore 7, 2) := by decide +kernel
theorem dX4_readResiduals_44 : decode cX4_readResiduals 44 = .ok (.aload_n 0, 1) := by decide +kernel
theorem dX4_readResiduals_45 : decode cX4_readResiduals 45 = .ok (.iload 7, 2) := by decide +kernel
theorem dX4_readResiduals_47 : decode cX4_readResiduals 47 = .ok (.iload 5, 2) := by decide +kernel
theorem dX4_readResiduals_49 : decode cX4_readResiduals 49 = .ok (.ishl, 1) := by decide +kernel
theorem dX4_readResiduals_50 : decode cX4_readResiduals 50 = .ok (.iload_n 2, 1) := by decide +kernel
theorem dX4_readResiduals_51 : decode cX4_readResiduals 51 = .ok (.if_icmp .ne 19, 3) := by decide +kernel
theorem dX4_readResiduals_54 : decode cX4_readResiduals 54 = .ok (.iload 7, 2) := by decide +kernel
theorem dX4_readResiduals_56 : decode cX4_readResiduals 56 = .ok (.aload_n 0, 1) := by decide +kernel
theorem dX4_readResiduals_57 : decode cX4_readResiduals 57 = .ok (.getfield 46, 3) := by decide +kernel
theorem dX4_readResiduals_60 : decode cX4_readResiduals 60 = .ok (.getfield 239, 3) := by decide +kernel
theorem dX4_readResiduals_63 : decode cX4_readResiduals 63 = .ok (.if_icmp .lt 7, 3) := by decide +kernel
theorem dX4_readResiduals_66 : decode cX4_readResiduals 66 = .ok (.iconst 1, 1) := by decide +kernel
theorem dX4_readResiduals_67 : decode cX4_readResiduals 67 = .ok (.goto 4, 3) := by decide +kernel
theorem dX4_readResiduals_70 : decode cX4_readResiduals 70 = .ok (.iconst 0, 1) := by decide +kernel
theorem dX4_readResiduals_71 : decode cX4_readResiduals 71 = .ok (.iconst 2, 1) := by decide +kernel
theorem dX4_readResiduals_72 : decode cX4_readResiduals 72 = .ok (.invokevirtual 119, 3) := by decide +kernel
theorem dX4_readResiduals_75 : decode cX4_readResiduals 75 = .ok (.iconst 0, 1) := by decide +kernel
theorem dX4_readResiduals_76 : decode cX4_readResiduals 76 = .ok (.istore 8, 2) := by decide +kernel
theorem dX4_readResiduals_78 : decode cX4_readResiduals 78 = .ok (.iload 8, 2) := by decide +kernel
theorem dX4_readResiduals_80 : decode cX4_readResiduals 80 = .ok (.iload 6, 2) := by decide +kernel
theorem dX4_readResiduals_82 : decode cX4_readResiduals 82 = .ok (.if_icmp .ge 50, 3) := by decide +kernel
theorem dX4_readResiduals_85 : decode cX4_readResiduals 85 = .ok (.iload 8, 2) := by decide +kernel
theorem dX4_readResiduals_87 : decode cX4_readResiduals 87 = .ok (.ifCond .ne 13, 3) := by decide +kernel
theorem dX4_readResiduals_90 : decode cX4_readResiduals 90 = .ok (.aload_n 0, 1) := by decide +kernel
theorem dX4_readResiduals_91 : decode cX4_readResiduals 91 = .ok (.getfield 46, 3) := by decide +kernel
theorem dX4_readResiduals_94 : decode cX4_readResiduals 94 = .ok (.getfield 239, 3) := by decide +kernel
theorem dX4_readResiduals_97 : decode cX4_readResiduals 97 = .ok (.goto 8, 3) := by decide +kernel
theorem dX4_readResiduals_100 : decode cX4_readResiduals 100 = .ok (.iload 8, 2) := by decide +kernel
theorem dX4_readResiduals_102 : decode cX4_readResiduals 102 = .ok (.iload 7, 2) := by decide +kernel
theorem dX4_readResiduals_104 : decode cX4_readResiduals 104 = .ok (.imul, 1) := by decide +kernel
theorem dX4_readResiduals_105 : decode cX4_readResiduals 105 = .ok (.istore 9, 2) := by decide +kernel
theorem dX4_readResiduals_107 : decode cX4_readResiduals 107 = .ok (.aload_n 0, 1) := by decide +kernel
theorem dX4_readResiduals_108 : decode cX4_readResiduals 108 = .ok (.aload_n 1, 1) := by decide +kernel
theorem dX4_readResiduals_109 : decode cX4_readResiduals 109 = .ok (.iload 9, 2) := by decide +kernel
theorem dX4_readResiduals_111 : decode cX4_readResiduals 111 = .ok (.iload 8, 2) := by decide +kernel
theorem dX4_readResiduals_113 : decode cX4_readResiduals 113 = .ok (.iconst 1, 1) := by decide +kernel
theorem dX4_readResiduals_114 : decode cX4_readResiduals 114 = .ok (.iadd, 1) := by decide +kernel
theorem dX4_readResiduals_115 : decode cX4_readResiduals 115 = .ok (.iload 7, 2) := by decide +kernel
theorem dX4_readResiduals_117 : decode cX4_readResiduals 117 = .ok (.imul, 1) := by decide +kernel
theorem dX4_readResiduals_118 : decode cX4_readResiduals 118 = .ok (.iload_n 3, 1) := by decide +kernel
theorem dX4_readResiduals_119 : decode cX4_readResiduals 119 = .ok (.iconst 4, 1) := by decide +kernel
theorem dX4_readResiduals_120 : decode cX4_readResiduals 120 = .ok (.iload 4, 2) := by decide +kernel
theorem dX4_readResiduals_122 : decode cX4_readResiduals 122 = .ok (.iadd, 1) := by decide +kernel
theorem dX4_readResiduals_123 : decode cX4_readResiduals 123 = .ok (.invokevirtual 242, 3) := by decide +kernel
theorem dX4_readResiduals_126 : decode cX4_readResiduals 126 = .ok (.iinc 8 1, 3) := by decide +kernel
theorem dX4_readResiduals_129 : decode cX4_readResiduals 129 = .ok (.goto (-51), 3) := by decide +kernel
theorem dX4_readResiduals_132 : decode cX4_readResiduals 132 = .ok (.return_, 1) := by decide +kernel
theorem dX4_readPart_0 : decode cX4_readPart 0 = .ok (.aload_n 0, 1) := by decide +kernel
theorem dX4_readPart_1 : decode cX4_readPart 1 = .ok (.iload 5, 2) := by decide +kernel
theorem dX4_readPart_3 : decode cX4_readPart 3 = .ok (.invokevirtual 98, 3) := by decide +kernel
theorem dX4_readPart_6 : decode cX4_readPart 6 = .ok (.l2i, 1) := by decide +kernel
theorem dX4_readPart_7 : decode cX4_readPart 7 = .ok (.istore 6, 2) := by decide +kernel
theorem dX4_readPart_9 : decode cX4_readPart 9 = .ok (.iload 6, 2) := by decide +kernel
theorem dX4_readPart_11 : decode cX4_readPart 11 = .ok (.iconst 1, 1) := by decide +kernel
theorem dX4_readPart_12 : decode cX4_readPart 12 = .ok (.iload 5, 2) := by decide +kernel
theorem dX4_readPart_14 : decode cX4_readPart 14 = .ok (.ishl, 1) := by decide +kernel
theorem dX4_readPart_15 : decode cX4_readPart 15 = .ok (.iconst 1, 1) := by decide +kernel
theorem dX4_readPart_16 : decode cX4_readPart 16 = .ok (.isub, 1) := by decide +kernel
theorem dX4_readPart_17 : decode cX4_readPart 17 = .ok (.if_icmp .ne 7, 3) := by decide +kernel
theorem dX4_readPart_20 : decode cX4_readPart 20 = .ok (.iconst 1, 1) := by decide +kernel
theorem dX4_readPart_21 : decode cX4_readPart 21 = .ok (.goto 4, 3) := by decide +kernel
theorem dX4_readPart_24 : decode cX4_readPart 24 = .ok (.iconst 0, 1) := by decide +kernel
theorem dX4_readPart_25 : decode cX4_readPart 25 = .ok (.istore 7, 2) := by decide +kernel
theorem dX4_readPart_27 : decode cX4_readPart 27 = .ok (.iload 7, 2) := by decide +kernel
theorem dX4_readPart_29 : decode cX4_readPart 29 = .ok (.ifCond .eq 12, 3) := by decide +kernel
theorem dX4_readPart_32 : decode cX4_readPart 32 = .ok (.aload_n 0, 1) := by decide +kernel
theorem dX4_readPart_33 : decode cX4_readPart 33 = .ok (.iconst 5, 1) := by decide +kernel
theorem dX4_readPart_34 : decode cX4_readPart 34 = .ok (.invokevirtual 98, 3) := by decide +kernel
theorem dX4_readPart_37 : decode cX4_readPart 37 = .ok (.l2i, 1) := by decide +kernel
theorem dX4_readPart_38 : decode cX4_readPart 38 = .ok (.goto 5, 3) := by decide +kernel
theorem dX4_readPart_41 : decode cX4_readPart 41 = .ok (.iload 6, 2) := by decide +kernel
theorem dX4_readPart_43 : decode cX4_readPart 43 = .ok (.istore 8, 2) := by decide +kernel
theorem dX4_readPart_45 : decode cX4_readPart 45 = .ok (.iload_n 2, 1) := by decide +kernel
theorem dX4_readPart_46 : decode cX4_readPart 46 = .ok (.istore 9, 2) := by decide +kernel
theorem dX4_readPart_48 : decode cX4_readPart 48 = .ok (.iload 9, 2) := by decide +kernel
theorem dX4_readPart_50 : decode cX4_readPart 50 = .ok (.iload_n 3, 1) := by decide +kernel
theorem dX4_readPart_51 : decode cX4_readPart 51 = .ok (.if_icmp .ge 107, 3) := by decide +kernel
theorem dX4_readPart_54 : decode cX4_readPart 54 = .ok (.aload_n 0, 1) := by decide +kernel
theorem dX4_readPart_55 : decode cX4_readPart 55 = .ok (.getfield 64, 3) := by decide +kernel
theorem dX4_readPart_58 : decode cX4_readPart 58 = .ok (.istore 10, 2) := by decide +kernel
theorem dX4_readPart_60 : decode cX4_readPart 60 = .ok (.iload 7, 2) := by decide +kernel
theorem dX4_readPart_62 : decode cX4_readPart 62 = .ok (.ifCond .eq 7, 3) := by decide +kernel
theorem dX4_readPart_65 : decode cX4_readPart 65 = .ok (.lconst 0, 1) := by decide +kernel
theorem dX4_readPart_66 : decode cX4_readPart 66 = .ok (.goto 8, 3) := by decide +kernel
theorem dX4_readPart_69 : decode cX4_readPart 69 = .ok (.aload_n 0, 1) := by decide +kernel
theorem dX4_readPart_70 : decode cX4_readPart 70 = .ok (.invokevirtual 202, 3) := by decide +kernel
theorem dX4_readPart_73 : decode cX4_readPart 73 = .ok (.i2l, 1) := by decide +kernel
theorem dX4_readPart_74 : decode cX4_readPart 74 = .ok (.lstore 11, 2) := by decide +kernel
theorem dX4_readPart_76 : decode cX4_readPart 76 = .ok (.aload_n 0, 1) := by decide +kernel
theorem dX4_readPart_77 : decode cX4_readPart 77 = .ok (.iload 8, 2) := by decide +kernel
theorem dX4_readPart_79 : decode cX4_readPart 79 = .ok (.invokevirtual 98, 3) := by decide +kernel
theorem dX4_readPart_82 : decode cX4_readPart 82 = .ok (.lstore 13, 2) := by decide +kernel
theorem dX4_readPart_84 : decode cX4_readPart 84 = .ok (.iload 7, 2) := by decide +kernel
theorem dX4_readPart_86 : decode cX4_readPart 86 = .ok (.ifCond .eq 14, 3) := by decide +kernel
theorem dX4_readPart_89 : decode cX4_readPart 89 = .ok (.lload 13, 2) := by decide +kernel
theorem dX4_readPart_91 : decode cX4_readPart 91 = .ok (.iload 8, 2) := by decide +kernel
theorem dX4_readPart_93 : decode cX4_readPart 93 = .ok (.invokestatic 205, 3) := by decide +kernel
theorem dX4_readPart_96 : decode cX4_readPart 96 = .ok (.i2l, 1) := by decide +kernel
theorem dX4_readPart_97 : decode cX4_readPart 97 = .ok (.goto 14, 3) := by decide +kernel
theorem dX4_readPart_100 : decode cX4_readPart 100 = .ok (.lload 11, 2) := by decide +kernel
theorem dX4_readPart_102 : decode cX4_readPart 102 = .ok (.iload 8, 2) := by decide +kernel
theorem dX4_readPart_104 : decode cX4_readPart 104 = .ok (.lshl, 1) := by decide +kernel
theorem dX4_readPart_105 : decode cX4_readPart 105 = .ok (.lload 13, 2) := by decide +kernel
theorem dX4_readPart_107 : decode cX4_readPart 107 = .ok (.lor, 1) := by decide +kernel
theorem dX4_readPart_108 : decode cX4_readPart 108 = .ok (.invokestatic 246, 3) := by decide +kernel
theorem dX4_readPart_111 : decode cX4_readPart 111 = .ok (.lstore 15, 2) := by decide +kernel
theorem dX4_readPart_113 : decode cX4_readPart 113 = .ok (.aload_n 0, 1) := by decide +kernel
theorem dX4_readPart_114 : decode cX4_readPart 114 = .ok (.getfield 46, 3) := by decide +kernel
theorem dX4_readPart_117 : decode cX4_readPart 117 = .ok (.aload_n 1, 1) := by decide +kernel
theorem dX4_readPart_118 : decode cX4_readPart 118 = .ok (.iload 9, 2) := by decide +kernel
theorem dX4_readPart_120 : decode cX4_readPart 120 = .ok (.invokevirtual 250, 3) := by decide +kernel
theorem dX4_readPart_123 : decode cX4_readPart 123 = .ok (.lload 15, 2) := by decide +kernel
theorem dX4_readPart_125 : decode cX4_readPart 125 = .ok (.ladd, 1) := by decide +kernel
theorem dX4_readPart_126 : decode cX4_readPart 126 = .ok (.lstore 17, 2) := by decide +kernel
theorem dX4_readPart_128 : decode cX4_readPart 128 = .ok (.lload 17, 2) := by decide +kernel
theorem dX4_readPart_130 : decode cX4_readPart 130 = .ok (.iload 4, 2) := by decide +kernel
theorem dX4_readPart_132 : decode cX4_readPart 132 = .ok (.invokestatic 169, 3) := by decide +kernel
theorem dX4_readPart_135 : decode cX4_readPart 135 = .ok (.ifCond .ne 10, 3) := by decide +kernel
theorem dX4_readPart_138 : decode cX4_readPart 138 = .ok (.aload_n 0, 1) := by decide +kernel
theorem dX4_readPart_139 : decode cX4_readPart 139 = .ok (.iconst 2, 1) := by decide +kernel
theorem dX4_readPart_140 : decode cX4_readPart 140 = .ok (.iload 10, 2) := by decide +kernel
theorem dX4_readPart_142 : decode cX4_readPart 142 = .ok (.invokevirtual 95, 3) := by decide +kernel
theorem dX4_readPart_145 : decode cX4_readPart 145 = .ok (.aload_n 1, 1) := by decide +kernel
theorem dX4_readPart_146 : decode cX4_readPart 146 = .ok (.iload 9, 2) := by decide +kernel
theorem dX4_readPart_148 : decode cX4_readPart 148 = .ok (.lload 17, 2) := by decide +kernel
theorem dX4_readPart_150 : decode cX4_readPart 150 = .ok (.l2i, 1) := by decide +kernel
theorem dX4_readPart_151 : decode cX4_readPart 151 = .ok (.iastore, 1) := by decide +kernel
theorem dX4_readPart_152 : decode cX4_readPart 152 = .ok (.iinc 9 1, 3) := by decide +kernel
theorem dX4_readPart_155 : decode cX4_readPart 155 = .ok (.goto (-107), 3) := by decide +kernel
theorem dX4_readPart_158 : decode cX4_readPart 158 = .ok (.return_, 1) := by decide +kernel
theorem dX4_uniteRows_0 : decode cX4_uniteRows 0 = .ok (.aload_n 0, 1) := by decide +kernel
theorem dX4_uniteRows_1 : decode cX4_uniteRows 1 = .ok (.getfield 38, 3) := by decide +kernel
theorem dX4_uniteRows_4 : decode cX4_uniteRows 4 = .ok (.iconst 0, 1) := by decide +kernel
theorem dX4_uniteRows_5 : decode cX4_uniteRows 5 = .ok (.aaload, 1) := by decide +kernel
theorem dX4_uniteRows_6 : decode cX4_uniteRows 6 = .ok (.astore_n 3, 1) := by decide +kernel
theorem dX4_uniteRows_7 : decode cX4_uniteRows 7 = .ok (.aload_n 0, 1) := by decide +kernel
theorem dX4_uniteRows_8 : decode cX4_uniteRows 8 = .ok (.getfield 38, 3) := by decide +kernel
theorem dX4_uniteRows_11 : decode cX4_uniteRows 11 = .ok (.iconst 1, 1) := by decide +kernel
theorem dX4_uniteRows_12 : decode cX4_uniteRows 12 = .ok (.aaload, 1) := by decide +kernel
theorem dX4_uniteRows_13 : decode cX4_uniteRows 13 = .ok (.astore 4, 2) := by decide +kernel
theorem dX4_uniteRows_15 : decode cX4_uniteRows 15 = .ok (.iconst 0, 1) := by decide +kernel
theorem dX4_uniteRows_16 : decode cX4_uniteRows 16 = .ok (.istore 5, 2) := by decide +kernel
theorem dX4_uniteRows_18 : decode cX4_uniteRows 18 = .ok (.iload 5, 2) := by decide +kernel
theorem dX4_uniteRows_20 : decode cX4_uniteRows 20 = .ok (.iload_n 2, 1) := by decide +kernel
theorem dX4_uniteRows_21 : decode cX4_uniteRows 21 = .ok (.if_icmp .ge 105, 3) := by decide +kernel
theorem dX4_uniteRows_24 : decode cX4_uniteRows 24 = .ok (.iload_n 1, 1) := by decide +kernel
theorem dX4_uniteRows_25 : decode cX4_uniteRows 25 = .ok (.bipush 8, 2) := by decide +kernel
theorem dX4_uniteRows_27 : decode cX4_uniteRows 27 = .ok (.if_icmp .ne 21, 3) := by decide +kernel
theorem dX4_uniteRows_30 : decode cX4_uniteRows 30 = .ok (.aload 4, 2) := by decide +kernel
theorem dX4_uniteRows_32 : decode cX4_uniteRows 32 = .ok (.iload 5, 2) := by decide +kernel
theorem dX4_uniteRows_34 : decode cX4_uniteRows 34 = .ok (.aload_n 3, 1) := by decide +kernel
theorem dX4_uniteRows_35 : decode cX4_uniteRows 35 = .ok (.iload 5, 2) := by decide +kernel
theorem dX4_uniteRows_37 : decode cX4_uniteRows 37 = .ok (.iaload, 1) := by decide +kernel
theorem dX4_uniteRows_38 : decode cX4_uniteRows 38 = .ok (.aload 4, 2) := by decide +kernel
theorem dX4_uniteRows_40 : decode cX4_uniteRows 40 = .ok (.iload 5, 2) := by decide +kernel
theorem dX4_uniteRows_42 : decode cX4_uniteRows 42 = .ok (.iaload, 1) := by decide +kernel
theorem dX4_uniteRows_43 : decode cX4_uniteRows 43 = .ok (.isub, 1) := by decide +kernel
theorem dX4_uniteRows_44 : decode cX4_uniteRows 44 = .ok (.iastore, 1) := by decide +kernel
theorem dX4_uniteRows_45 : decode cX4_uniteRows 45 = .ok (.goto 75, 3) := by decide +kernel
theorem dX4_uniteRows_48 : decode cX4_uniteRows 48 = .ok (.iload_n 1, 1) := by decide +kernel
theorem dX4_uniteRows_49 : decode cX4_uniteRows 49 = .ok (.bipush 9, 2) := by decide +kernel
theorem dX4_uniteRows_51 : decode cX4_uniteRows 51 = .ok (.if_icmp .ne 18, 3) := by decide +kernel
theorem dX4_uniteRows_54 : decode cX4_uniteRows 54 = .ok (.aload_n 3, 1) := by decide +kernel
theorem dX4_uniteRows_55 : decode cX4_uniteRows 55 = .ok (.iload 5, 2) := by decide +kernel
theorem dX4_uniteRows_57 : decode cX4_uniteRows 57 = .ok (.dup2, 1) := by decide +kernel
theorem dX4_uniteRows_58 : decode cX4_uniteRows 58 = .ok (.iaload, 1) := by decide +kernel
theorem dX4_uniteRows_59 : decode cX4_uniteRows 59 = .ok (.aload 4, 2) := by decide +kernel
theorem dX4_uniteRows_61 : decode cX4_uniteRows 61 = .ok (.iload 5, 2) := by decide +kernel
theorem dX4_uniteRows_63 : decode cX4_uniteRows 63 = .ok (.iaload, 1) := by decide +kernel
theorem dX4_uniteRows_64 : decode cX4_uniteRows 64 = .ok (.iadd, 1) := by decide +kernel
theorem dX4_uniteRows_65 : decode cX4_uniteRows 65 = .ok (.iastore, 1) := by decide +kernel
theorem dX4_uniteRows_66 : decode cX4_uniteRows 66 = .ok (.goto 54, 3) := by decide +kernel
theorem dX4_uniteRows_69 : decode cX4_uniteRows 69 = .ok (.iload_n 1, 1) := by decide +kernel
theorem dX4_uniteRows_70 : decode cX4_uniteRows 70 = .ok (.bipush 10, 2) := by decide +kernel
theorem dX4_uniteRows_72 : decode cX4_uniteRows 72 = .ok (.if_icmp .ne 48, 3) := by decide +kernel
theorem dX4_uniteRows_75 : decode cX4_uniteRows 75 = .ok (.iconst 2, 1) := by decide +kernel
theorem dX4_uniteRows_76 : decode cX4_uniteRows 76 = .ok (.aload_n 3, 1) := by decide +kernel
theorem dX4_uniteRows_77 : decode cX4_uniteRows 77 = .ok (.iload 5, 2) := by decide +kernel
theorem dX4_uniteRows_79 : decode cX4_uniteRows 79 = .ok (.iaload, 1) := by decide +kernel
theorem dX4_uniteRows_80 : decode cX4_uniteRows 80 = .ok (.imul, 1) := by decide +kernel
theorem dX4_uniteRows_81 : decode cX4_uniteRows 81 = .ok (.aload 4, 2) := by decide +kernel
theorem dX4_uniteRows_83 : decode cX4_uniteRows 83 = .ok (.iload 5, 2) := by decide +kernel
theorem dX4_uniteRows_85 : decode cX4_uniteRows 85 = .ok (.iaload, 1) := by decide +kernel
theorem dX4_uniteRows_86 : decode cX4_uniteRows 86 = .ok (.iconst 1, 1) := by decide +kernel
theorem dX4_uniteRows_87 : decode cX4_uniteRows 87 = .ok (.iand, 1) := by decide +kernel
theorem dX4_uniteRows_88 : decode cX4_uniteRows 88 = .ok (.iadd, 1) := by decide +kernel
theorem dX4_uniteRows_89 : decode cX4_uniteRows 89 = .ok (.istore 6, 2) := by decide +kernel
theorem dX4_uniteRows_91 : decode cX4_uniteRows 91 = .ok (.aload_n 3, 1) := by decide +kernel
theorem dX4_uniteRows_92 : decode cX4_uniteRows 92 = .ok (.iload 5, 2) := by decide +kernel
theorem dX4_uniteRows_94 : decode cX4_uniteRows 94 = .ok (.iload 6, 2) := by decide +kernel
theorem dX4_uniteRows_96 : decode cX4_uniteRows 96 = .ok (.aload 4, 2) := by decide +kernel
theorem dX4_uniteRows_98 : decode cX4_uniteRows 98 = .ok (.iload 5, 2) := by decide +kernel
theorem dX4_uniteRows_100 : decode cX4_uniteRows 100 = .ok (.iaload, 1) := by decide +kernel
theorem dX4_uniteRows_101 : decode cX4_uniteRows 101 = .ok (.iadd, 1) := by decide +kernel
theorem dX4_uniteRows_102 : decode cX4_uniteRows 102 = .ok (.iconst 1, 1) := by decide +kernel
theorem dX4_uniteRows_103 : decode cX4_uniteRows 103 = .ok (.ishr, 1) := by decide +kernel
theorem dX4_uniteRows_104 : decode cX4_uniteRows 104 = .ok (.iastore, 1) := by decide +kernel
theorem dX4_uniteRows_105 : decode cX4_uniteRows 105 = .ok (.aload 4, 2) := by decide +kernel
theorem dX4_uniteRows_107 : decode cX4_uniteRows 107 = .ok (.iload 5, 2) := by decide +kernel
theorem dX4_uniteRows_109 : decode cX4_uniteRows 109 = .ok (.aload_n 3, 1) := by decide +kernel
theorem dX4_uniteRows_110 : decode cX4_uniteRows 110 = .ok (.iload 5, 2) := by decide +kernel
theorem dX4_uniteRows_112 : decode cX4_uniteRows 112 = .ok (.iaload, 1) := by decide +kernel
theorem dX4_uniteRows_113 : decode cX4_uniteRows 113 = .ok (.aload 4, 2) := by decide +kernel
theorem dX4_uniteRows_115 : decode cX4_uniteRows 115 = .ok (.iload 5, 2) := by decide +kernel
theorem dX4_uniteRows_117 : decode cX4_uniteRows 117 = .ok (.iaload, 1) := by decide +kernel
theorem dX4_uniteRows_118 : decode cX4_uniteRows 118 = .ok (.isub, 1) := by decide +kernel
theorem dX4_uniteRows_119 : decode cX4_uniteRows 119 = .ok (.iastore, 1) := by decide +kernel
theorem dX4_uniteRows_120 : decode cX4_uniteRows 120 = .ok (.iinc 5 1, 3) := by decide +kernel
theorem dX4_uniteRows_123 : decode cX4_uniteRows 123 = .ok (.goto (-105), 3) := by decide +kernel
theorem dX4_uniteRows_126 : decode cX4_uniteRows 126 = .ok (.return_, 1) := by decide +kernel
theorem dX5_init_0 : decode cX5_init 0 = .ok (.aload_n 0, 1) := by decide +kernel
theorem dX5_init_1 : decode cX5_init 1 = .ok (.invokespecial 3, 3) := by decide +kernel
theorem dX5_init_4 : decode cX5_init 4 = .ok (.aload_n 0, 1) := by decide +kernel
theorem dX5_init_5 : decode cX5_init 5 = .ok (.sipush 256, 3) := by decide +kernel
theorem dX5_init_8 : decode cX5_init 8 = .ok (.newarray .long, 2) := by decide +kernel
theorem dX5_init_10 : decode cX5_init 10 = .ok (.putfield 9, 3) := by decide +kernel
theorem dX5_init_13 : decode cX5_init 13 = .ok (.aload_n 0, 1) := by decide +kernel
theorem dX5_init_14 : decode cX5_init 14 = .ok (.bipush 120, 2) := by decide +kernel
theorem dX5_init_16 : decode cX5_init 16 = .ok (.newarray .long, 2) := by decide +kernel
theorem dX5_init_18 : decode cX5_init 18 = .ok (.putfield 15, 3) := by decide +kernel
theorem dX5_init_21 : decode cX5_init 21 = .ok (.aload_n 0, 1) := by decide +kernel
theorem dX5_init_22 : decode cX5_init 22 = .ok (.bipush 8, 2) := by decide +kernel
theorem dX5_init_24 : decode cX5_init 24 = .ok (.newarray .int, 2) := by decide +kernel
theorem dX5_init_26 : decode cX5_init 26 = .ok (.putfield 18, 3) := by decide +kernel
theorem dX5_init_29 : decode cX5_init 29 = .ok (.aload_n 0, 1) := by decide +kernel
theorem dX5_init_30 : decode cX5_init 30 = .ok (.bipush 8, 2) := by decide +kernel
theorem dX5_init_32 : decode cX5_init 32 = .ok (.newarray .int, 2) := by decide +kernel
theorem dX5_init_34 : decode cX5_init 34 = .ok (.putfield 22, 3) := by decide +kernel
theorem dX5_init_37 : decode cX5_init 37 = .ok (.return_, 1) := by decide +kernel
theorem dX5_take_0 : decode cX5_take 0 = .ok (.aload_n 0, 1) := by decide +kernel
theorem dX5_take_1 : decode cX5_take 1 = .ok (.iload_n 2, 1) := by decide +kernel
theorem dX5_take_2 : decode cX5_take 2 = .ok (.putfield 25, 3) := by decide +kernel
theorem dX5_take_5 : decode cX5_take 5 = .ok (.aload_n 0, 1) := by decide +kernel
theorem dX5_take_6 : decode cX5_take 6 = .ok (.aload_n 3, 1) := by decide +kernel
theorem dX5_take_7 : decode cX5_take 7 = .ok (.getfield 29, 3) := by decide +kernel
theorem dX5_take_10 : decode cX5_take 10 = .ok (.putfield 34, 3) := by decide +kernel
theorem dX5_take_13 : decode cX5_take 13 = .ok (.aload_n 0, 1) := by decide +kernel
theorem dX5_take_14 : decode cX5_take 14 = .ok (.getfield 34, 3) := by decide +kernel
theorem dX5_take_17 : decode cX5_take 17 = .ok (.istore 4, 2) := by decide +kernel
theorem dX5_take_19 : decode cX5_take 19 = .ok (.iload 4, 2) := by decide +kernel
theorem dX5_take_21 : decode cX5_take 21 = .ok (.iload_n 2, 1) := by decide +kernel
theorem dX5_take_22 : decode cX5_take 22 = .ok (.if_icmp .ge 71, 3) := by decide +kernel
theorem dX5_take_25 : decode cX5_take 25 = .ok (.aload_n 1, 1) := by decide +kernel
theorem dX5_take_26 : decode cX5_take 26 = .ok (.iload 4, 2) := by decide +kernel
theorem dX5_take_28 : decode cX5_take 28 = .ok (.iaload, 1) := by decide +kernel
theorem dX5_take_29 : decode cX5_take 29 = .ok (.i2l, 1) := by decide +kernel
theorem dX5_take_30 : decode cX5_take 30 = .ok (.aload_n 3, 1) := by decide +kernel
theorem dX5_take_31 : decode cX5_take 31 = .ok (.aload_n 1, 1) := by decide +kernel
theorem dX5_take_32 : decode cX5_take 32 = .ok (.iload 4, 2) := by decide +kernel
theorem dX5_take_34 : decode cX5_take 34 = .ok (.invokevirtual 37, 3) := by decide +kernel
theorem dX5_take_37 : decode cX5_take 37 = .ok (.lsub, 1) := by decide +kernel
theorem dX5_take_38 : decode cX5_take 38 = .ok (.lstore 5, 2) := by decide +kernel
theorem dX5_take_40 : decode cX5_take 40 = .ok (.lload 5, 2) := by decide +kernel
theorem dX5_take_42 : decode cX5_take 42 = .ok (.ldc2_w 41, 3) := by decide +kernel
theorem dX5_take_45 : decode cX5_take 45 = .ok (.ldc2_w 43, 3) := by decide +kernel
theorem dX5_take_48 : decode cX5_take 48 = .ok (.invokestatic 45, 3) := by decide +kernel
theorem dX5_take_51 : decode cX5_take 51 = .ok (.ifCond .ne 5, 3) := by decide +kernel
theorem dX5_take_54 : decode cX5_take 54 = .ok (.iconst 0, 1) := by decide +kernel
theorem dX5_take_55 : decode cX5_take 55 = .ok (.ireturn, 1) := by decide +kernel
theorem dX5_take_56 : decode cX5_take 56 = .ok (.aload_n 0, 1) := by decide +kernel
theorem dX5_take_57 : decode cX5_take 57 = .ok (.getfield 9, 3) := by decide +kernel
theorem dX5_take_60 : decode cX5_take 60 = .ok (.iload 4, 2) := by decide +kernel
theorem dX5_take_62 : decode cX5_take 62 = .ok (.lload 5, 2) := by decide +kernel
theorem dX5_take_64 : decode cX5_take 64 = .ok (.lconst 0, 1) := by decide +kernel
theorem dX5_take_65 : decode cX5_take 65 = .ok (.lcmp, 1) := by decide +kernel
theorem dX5_take_66 : decode cX5_take 66 = .ok (.ifCond .lt 12, 3) := by decide +kernel
theorem dX5_take_69 : decode cX5_take 69 = .ok (.ldc2_w 49, 3) := by decide +kernel
theorem dX5_take_72 : decode cX5_take 72 = .ok (.lload 5, 2) := by decide +kernel
theorem dX5_take_74 : decode cX5_take 74 = .ok (.lmul, 1) := by decide +kernel
theorem dX5_take_75 : decode cX5_take 75 = .ok (.goto 11, 3) := by decide +kernel
theorem dX5_take_78 : decode cX5_take 78 = .ok (.ldc2_w 51, 3) := by decide +kernel
theorem dX5_take_81 : decode cX5_take 81 = .ok (.lload 5, 2) := by decide +kernel
theorem dX5_take_83 : decode cX5_take 83 = .ok (.lmul, 1) := by decide +kernel
theorem dX5_take_84 : decode cX5_take 84 = .ok (.lconst 1, 1) := by decide +kernel
theorem dX5_take_85 : decode cX5_take 85 = .ok (.lsub, 1) := by decide +kernel
theorem dX5_take_86 : decode cX5_take 86 = .ok (.lastore, 1) := by decide +kernel
theorem dX5_take_87 : decode cX5_take 87 = .ok (.iinc 4 1, 3) := by decide +kernel
theorem dX5_take_90 : decode cX5_take 90 = .ok (.goto (-71), 3) := by decide +kernel
theorem dX5_take_93 : decode cX5_take 93 = .ok (.iconst 1, 1) := by decide +kernel
theorem dX5_take_94 : decode cX5_take 94 = .ok (.ireturn, 1) := by decide +kernel
theorem dX5_measure_0 : decode cX5_measure 0 = .ok (.aload_n 0, 1) := by decide +kernel
theorem dX5_measure_1 : decode cX5_measure 1 = .ok (.invokevirtual 53, 3) := by decide +kernel
theorem dX5_measure_4 : decode cX5_measure 4 = .ok (.istore_n 1, 1) := by decide +kernel
theorem dX5_measure_5 : decode cX5_measure 5 = .ok (.aload_n 0, 1) := by decide +kernel
theorem dX5_measure_6 : decode cX5_measure 6 = .ok (.iload_n 1, 1) := by decide +kernel
theorem dX5_measure_7 : decode cX5_measure 7 = .ok (.invokevirtual 57, 3) := by decide +kernel
theorem dX5_measure_10 : decode cX5_measure 10 = .ok (.aload_n 0, 1) := by decide +kernel
theorem dX5_measure_11 : decode cX5_measure 11 = .ok (.ldc2_w 61, 3) := by decide +kernel
theorem dX5_measure_14 : decode cX5_measure 14 = .ok (.putfield 63, 3) := by decide +kernel
theorem dX5_measure_17 : decode cX5_measure 17 = .ok (.iload_n 1, 1) := by decide +kernel
theorem dX5_measure_18 : decode cX5_measure 18 = .ok (.istore_n 2, 1) := by decide +kernel
theorem dX5_measure_19 : decode cX5_measure 19 = .ok (.iload_n 2, 1) := by decide +kernel
theorem dX5_measure_20 : decode cX5_measure 20 = .ok (.ifCond .lt 55, 3) := by decide +kernel
theorem dX5_measure_23 : decode cX5_measure 23 = .ok (.aload_n 0, 1) := by decide +kernel
theorem dX5_measure_24 : decode cX5_measure 24 = .ok (.iload_n 2, 1) := by decide +kernel
theorem dX5_measure_25 : decode cX5_measure 25 = .ok (.invokevirtual 67, 3) := by decide +kernel
theorem dX5_measure_28 : decode cX5_measure 28 = .ok (.lstore_n 3, 1) := by decide +kernel
theorem dX5_measure_29 : decode cX5_measure 29 = .ok (.lload_n 3, 1) := by decide +kernel
theorem dX5_measure_30 : decode cX5_measure 30 = .ok (.aload_n 0, 1) := by decide +kernel
theorem dX5_measure_31 : decode cX5_measure 31 = .ok (.getfield 63, 3) := by decide +kernel
theorem dX5_measure_34 : decode cX5_measure 34 = .ok (.lcmp, 1) := by decide +kernel
theorem dX5_measure_35 : decode cX5_measure 35 = .ok (.ifCond .gt 29, 3) := by decide +kernel
theorem dX5_measure_38 : decode cX5_measure 38 = .ok (.aload_n 0, 1) := by decide +kernel
theorem dX5_measure_39 : decode cX5_measure 39 = .ok (.lload_n 3, 1) := by decide +kernel
theorem dX5_measure_40 : decode cX5_measure 40 = .ok (.putfield 63, 3) := by decide +kernel
theorem dX5_measure_43 : decode cX5_measure 43 = .ok (.aload_n 0, 1) := by decide +kernel
theorem dX5_measure_44 : decode cX5_measure 44 = .ok (.iload_n 2, 1) := by decide +kernel
theorem dX5_measure_45 : decode cX5_measure 45 = .ok (.putfield 71, 3) := by decide +kernel
theorem dX5_measure_48 : decode cX5_measure 48 = .ok (.aload_n 0, 1) := by decide +kernel
theorem dX5_measure_49 : decode cX5_measure 49 = .ok (.getfield 22, 3) := by decide +kernel
theorem dX5_measure_52 : decode cX5_measure 52 = .ok (.iconst 0, 1) := by decide +kernel
theorem dX5_measure_53 : decode cX5_measure 53 = .ok (.aload_n 0, 1) := by decide +kernel
theorem dX5_measure_54 : decode cX5_measure 54 = .ok (.getfield 18, 3) := by decide +kernel
theorem dX5_measure_57 : decode cX5_measure 57 = .ok (.iconst 0, 1) := by decide +kernel
theorem dX5_measure_58 : decode cX5_measure 58 = .ok (.iconst 1, 1) := by decide +kernel
theorem dX5_measure_59 : decode cX5_measure 59 = .ok (.iload_n 2, 1) := by decide +kernel
theorem dX5_measure_60 : decode cX5_measure 60 = .ok (.ishl, 1) := by decide +kernel
theorem dX5_measure_61 : decode cX5_measure 61 = .ok (.invokestatic 72, 3) := by decide +kernel
theorem dX5_measure_64 : decode cX5_measure 64 = .ok (.aload_n 0, 1) := by decide +kernel
theorem dX5_measure_65 : decode cX5_measure 65 = .ok (.iload_n 2, 1) := by decide +kernel
theorem dX5_measure_66 : decode cX5_measure 66 = .ok (.invokevirtual 78, 3) := by decide +kernel
theorem dX5_measure_69 : decode cX5_measure 69 = .ok (.iinc 2 (-1), 3) := by decide +kernel
theorem dX5_measure_72 : decode cX5_measure 72 = .ok (.goto (-53), 3) := by decide +kernel
theorem dX5_measure_75 : decode cX5_measure 75 = .ok (.return_, 1) := by decide +kernel
theorem dX5_finestOrder_0 : decode cX5_finestOrder 0 = .ok (.iconst 0, 1) := by decide +kernel
theorem dX5_finestOrder_1 : decode cX5_finestOrder 1 = .ok (.istore_n 1, 1) := by decide +kernel
theorem dX5_finestOrder_2 : decode cX5_finestOrder 2 = .ok (.iload_n 1, 1) := by decide +kernel
theorem dX5_finestOrder_3 : decode cX5_finestOrder 3 = .ok (.iconst 3, 1) := by decide +kernel
theorem dX5_finestOrder_4 : decode cX5_finestOrder 4 = .ok (.if_icmp .ge 35, 3) := by decide +kernel
theorem dX5_finestOrder_7 : decode cX5_finestOrder 7 = .ok (.aload_n 0, 1) := by decide +kernel
theorem dX5_finestOrder_8 : decode cX5_finestOrder 8 = .ok (.getfield 25, 3) := by decide +kernel
theorem dX5_finestOrder_11 : decode cX5_finestOrder 11 = .ok (.iload_n 1, 1) := by decide +kernel
theorem dX5_finestOrder_12 : decode cX5_finestOrder 12 = .ok (.ishr, 1) := by decide +kernel
theorem dX5_finestOrder_13 : decode cX5_finestOrder 13 = .ok (.iconst 1, 1) := by decide +kernel
theorem dX5_finestOrder_14 : decode cX5_finestOrder 14 = .ok (.iand, 1) := by decide +kernel
theorem dX5_finestOrder_15 : decode cX5_finestOrder 15 = .ok (.ifCond .ne 24, 3) := by decide +kernel
theorem dX5_finestOrder_18 : decode cX5_finestOrder 18 = .ok (.aload_n 0, 1) := by decide +kernel
theorem dX5_finestOrder_19 : decode cX5_finestOrder 19 = .ok (.getfield 25, 3) := by decide +kernel
theorem dX5_finestOrder_22 : decode cX5_finestOrder 22 = .ok (.iload_n 1, 1) := by decide +kernel
theorem dX5_finestOrder_23 : decode cX5_finestOrder 23 = .ok (.iconst 1, 1) := by decide +kernel
theorem dX5_finestOrder_24 : decode cX5_finestOrder 24 = .ok (.iadd, 1) := by decide +kernel
theorem dX5_finestOrder_25 : decode cX5_finestOrder 25 = .ok (.ishr, 1) := by decide +kernel
theorem dX5_finestOrder_26 : decode cX5_finestOrder 26 = .ok (.aload_n 0, 1) := by decide +kernel
theorem dX5_finestOrder_27 : decode cX5_finestOrder 27 = .ok (.getfield 34, 3) := by decide +kernel
theorem dX5_finestOrder_30 : decode cX5_finestOrder 30 = .ok (.if_icmp .le 9, 3) := by decide +kernel
theorem dX5_finestOrder_33 : decode cX5_finestOrder 33 = .ok (.iinc 1 1, 3) := by decide +kernel
theorem dX5_finestOrder_36 : decode cX5_finestOrder 36 = .ok (.goto (-34), 3) := by decide +kernel
theorem dX5_finestOrder_39 : decode cX5_finestOrder 39 = .ok (.iload_n 1, 1) := by decide +kernel
theorem dX5_finestOrder_40 : decode cX5_finestOrder 40 = .ok (.ireturn, 1) := by decide +kernel
theorem dX5_addUp_0 : decode cX5_addUp 0 = .ok (.aload_n 0, 1) := by decide +kernel
theorem dX5_addUp_1 : decode cX5_addUp 1 = .ok (.getfield 15, 3) := by decide +kernel
theorem dX5_addUp_4 : decode cX5_addUp 4 = .ok (.lconst 0, 1) := by decide +kernel
theorem dX5_addUp_5 : decode cX5_addUp 5 = .ok (.invokestatic 81, 3) := by decide +kernel
theorem dX5_addUp_8 : decode cX5_addUp 8 = .ok (.aload_n 0, 1) := by decide +kernel
theorem dX5_addUp_9 : decode cX5_addUp 9 = .ok (.getfield 25, 3) := by decide +kernel
theorem dX5_addUp_12 : decode cX5_addUp 12 = .ok (.iload_n 1, 1) := by decide +kernel
theorem dX5_addUp_13 : decode cX5_addUp 13 = .ok (.ishr, 1) := by decide +kernel
theorem dX5_addUp_14 : decode cX5_addUp 14 = .ok (.istore_n 2, 1) := by decide +kernel
theorem dX5_addUp_15 : decode cX5_addUp 15 = .ok (.iconst 0, 1) := by decide +kernel
theorem dX5_addUp_16 : decode cX5_addUp 16 = .ok (.istore_n 3, 1) := by decide +kernel
theorem dX5_addUp_17 : decode cX5_addUp 17 = .ok (.iload_n 3, 1) := by decide +kernel
theorem dX5_addUp_18 : decode cX5_addUp 18 = .ok (.iconst 1, 1) := by decide +kernel
theorem dX5_addUp_19 : decode cX5_addUp 19 = .ok (.iload_n 1, 1) := by decide +kernel
theorem dX5_addUp_20 : decode cX5_addUp 20 = .ok (.ishl, 1) := by decide +kernel
theorem dX5_addUp_21 : decode cX5_addUp 21 = .ok (.if_icmp .ge 92, 3) := by decide +kernel
theorem dX5_addUp_24 : decode cX5_addUp 24 = .ok (.aload_n 0, 1) := by decide +kernel
theorem dX5_addUp_25 : decode cX5_addUp 25 = .ok (.getfield 34, 3) := by decide +kernel
theorem dX5_addUp_28 : decode cX5_addUp 28 = .ok (.iload_n 3, 1) := by decide +kernel
theorem dX5_addUp_29 : decode cX5_addUp 29 = .ok (.iload_n 2, 1) := by decide +kernel
theorem dX5_addUp_30 : decode cX5_addUp 30 = .ok (.imul, 1) := by decide +kernel
theorem dX5_addUp_31 : decode cX5_addUp 31 = .ok (.invokestatic 87, 3) := by decide +kernel
theorem dX5_addUp_34 : decode cX5_addUp 34 = .ok (.istore 4, 2) := by decide +kernel
theorem dX5_addUp_36 : decode cX5_addUp 36 = .ok (.iload 4, 2) := by decide +kernel
theorem dX5_addUp_38 : decode cX5_addUp 38 = .ok (.iload_n 3, 1) := by decide +kernel
theorem dX5_addUp_39 : decode cX5_addUp 39 = .ok (.iconst 1, 1) := by decide +kernel
theorem dX5_addUp_40 : decode cX5_addUp 40 = .ok (.iadd, 1) := by decide +kernel
theorem dX5_addUp_41 : decode cX5_addUp 41 = .ok (.iload_n 2, 1) := by decide +kernel
theorem dX5_addUp_42 : decode cX5_addUp 42 = .ok (.imul, 1) := by decide +kernel
theorem dX5_addUp_43 : decode cX5_addUp 43 = .ok (.if_icmp .ge 64, 3) := by decide +kernel
theorem dX5_addUp_46 : decode cX5_addUp 46 = .ok (.aload_n 0, 1) := by decide +kernel
theorem dX5_addUp_47 : decode cX5_addUp 47 = .ok (.getfield 9, 3) := by decide +kernel
theorem dX5_addUp_50 : decode cX5_addUp 50 = .ok (.iload 4, 2) := by decide +kernel
theorem dX5_addUp_52 : decode cX5_addUp 52 = .ok (.laload, 1) := by decide +kernel
theorem dX5_addUp_53 : decode cX5_addUp 53 = .ok (.lstore 5, 2) := by decide +kernel
theorem dX5_addUp_55 : decode cX5_addUp 55 = .ok (.iconst 0, 1) := by decide +kernel
theorem dX5_addUp_56 : decode cX5_addUp 56 = .ok (.istore 7, 2) := by decide +kernel
theorem dX5_addUp_58 : decode cX5_addUp 58 = .ok (.iload 7, 2) := by decide +kernel
theorem dX5_addUp_60 : decode cX5_addUp 60 = .ok (.bipush 15, 2) := by decide +kernel
theorem dX5_addUp_62 : decode cX5_addUp 62 = .ok (.if_icmp .ge 39, 3) := by decide +kernel
theorem dX5_addUp_65 : decode cX5_addUp 65 = .ok (.lload 5, 2) := by decide +kernel
theorem dX5_addUp_67 : decode cX5_addUp 67 = .ok (.lconst 0, 1) := by decide +kernel
theorem dX5_addUp_68 : decode cX5_addUp 68 = .ok (.lcmp, 1) := by decide +kernel
theorem dX5_addUp_69 : decode cX5_addUp 69 = .ok (.ifCond .le 32, 3) := by decide +kernel
theorem dX5_addUp_72 : decode cX5_addUp 72 = .ok (.aload_n 0, 1) := by decide +kernel
theorem dX5_addUp_73 : decode cX5_addUp 73 = .ok (.getfield 15, 3) := by decide +kernel
theorem dX5_addUp_76 : decode cX5_addUp 76 = .ok (.iload_n 3, 1) := by decide +kernel
theorem dX5_addUp_77 : decode cX5_addUp 77 = .ok (.bipush 15, 2) := by decide +kernel
theorem dX5_addUp_79 : decode cX5_addUp 79 = .ok (.imul, 1) := by decide +kernel
theorem dX5_addUp_80 : decode cX5_addUp 80 = .ok (.iload 7, 2) := by decide +kernel
theorem dX5_addUp_82 : decode cX5_addUp 82 = .ok (.iadd, 1) := by decide +kernel
theorem dX5_addUp_83 : decode cX5_addUp 83 = .ok (.dup2, 1) := by decide +kernel
theorem dX5_addUp_84 : decode cX5_addUp 84 = .ok (.laload, 1) := by decide +kernel
theorem dX5_addUp_85 : decode cX5_addUp 85 = .ok (.lload 5, 2) := by decide +kernel
theorem dX5_addUp_87 : decode cX5_addUp 87 = .ok (.ladd, 1) := by decide +kernel
theorem dX5_addUp_88 : decode cX5_addUp 88 = .ok (.lastore, 1) := by decide +kernel
theorem dX5_addUp_89 : decode cX5_addUp 89 = .ok (.lload 5, 2) := by decide +kernel
theorem dX5_addUp_91 : decode cX5_addUp 91 = .ok (.iconst 1, 1) := by decide +kernel
theorem dX5_addUp_92 : decode cX5_addUp 92 = .ok (.lshr, 1) := by decide +kernel
theorem dX5_addUp_93 : decode cX5_addUp 93 = .ok (.lstore 5, 2) := by decide +kernel
theorem dX5_addUp_95 : decode cX5_addUp 95 = .ok (.iinc 7 1, 3) := by decide +kernel
theorem dX5_addUp_98 : decode cX5_addUp 98 = .ok (.goto (-40), 3) := by decide +kernel
theorem dX5_addUp_101 : decode cX5_addUp 101 = .ok (.iinc 4 1, 3) := by decide +kernel
theorem dX5_addUp_104 : decode cX5_addUp 104 = .ok (.goto (-68), 3) := by decide +kernel
theorem dX5_addUp_107 : decode cX5_addUp 107 = .ok (.iinc 3 1, 3) := by decide +kernel
theorem dX5_addUp_110 : decode cX5_addUp 110 = .ok (.goto (-93), 3) := by decide +kernel
theorem dX5_addUp_113 : decode cX5_addUp 113 = .ok (.return_, 1) := by decide +kernel
theorem dX5_bitsInParts_0 : decode cX5_bitsInParts 0 = .ok (.ldc2_w 93, 3) := by decide +kernel
theorem dX5_bitsInParts_3 : decode cX5_bitsInParts 3 = .ok (.lstore_n 2, 1) := by decide +kernel
theorem dX5_bitsInParts_4 : decode cX5_bitsInParts 4 = .ok (.iconst 0, 1) := by decide +kernel
theorem dX5_bitsInParts_5 : decode cX5_bitsInParts 5 = .ok (.istore 4, 2) := by decide +kernel
theorem dX5_bitsInParts_7 : decode cX5_bitsInParts 7 = .ok (.iload 4, 2) := by decide +kernel
theorem dX5_bitsInParts_9 : decode cX5_bitsInParts 9 = .ok (.iconst 1, 1) := by decide +kernel
theorem dX5_bitsInParts_10 : decode cX5_bitsInParts 10 = .ok (.iload_n 1, 1) := by decide +kernel
theorem dX5_bitsInParts_11 : decode cX5_bitsInParts 11 = .ok (.ishl, 1) := by decide +kernel
theorem dX5_bitsInParts_12 : decode cX5_bitsInParts 12 = .ok (.if_icmp .ge 107, 3) := by decide +kernel
theorem dX5_bitsInParts_15 : decode cX5_bitsInParts 15 = .ok (.aload_n 0, 1) := by decide +kernel
theorem dX5_bitsInParts_16 : decode cX5_bitsInParts 16 = .ok (.getfield 25, 3) := by decide +kernel
theorem dX5_bitsInParts_19 : decode cX5_bitsInParts 19 = .ok (.iload_n 1, 1) := by decide +kernel
theorem dX5_bitsInParts_20 : decode cX5_bitsInParts 20 = .ok (.ishr, 1) := by decide +kernel
theorem dX5_bitsInParts_21 : decode cX5_bitsInParts 21 = .ok (.iload 4, 2) := by decide +kernel
theorem dX5_bitsInParts_23 : decode cX5_bitsInParts 23 = .ok (.ifCond .ne 10, 3) := by decide +kernel
theorem dX5_bitsInParts_26 : decode cX5_bitsInParts 26 = .ok (.aload_n 0, 1) := by decide +kernel
theorem dX5_bitsInParts_27 : decode cX5_bitsInParts 27 = .ok (.getfield 34, 3) := by decide +kernel
theorem dX5_bitsInParts_30 : decode cX5_bitsInParts 30 = .ok (.goto 4, 3) := by decide +kernel
theorem dX5_bitsInParts_33 : decode cX5_bitsInParts 33 = .ok (.iconst 0, 1) := by decide +kernel
theorem dX5_bitsInParts_34 : decode cX5_bitsInParts 34 = .ok (.isub, 1) := by decide +kernel
theorem dX5_bitsInParts_35 : decode cX5_bitsInParts 35 = .ok (.istore 5, 2) := by decide +kernel
theorem dX5_bitsInParts_37 : decode cX5_bitsInParts 37 = .ok (.ldc2_w 61, 3) := by decide +kernel
theorem dX5_bitsInParts_40 : decode cX5_bitsInParts 40 = .ok (.lstore 6, 2) := by decide +kernel
theorem dX5_bitsInParts_42 : decode cX5_bitsInParts 42 = .ok (.iconst 0, 1) := by decide +kernel
theorem dX5_bitsInParts_43 : decode cX5_bitsInParts 43 = .ok (.istore 8, 2) := by decide +kernel
theorem dX5_bitsInParts_45 : decode cX5_bitsInParts 45 = .ok (.iload 8, 2) := by decide +kernel
theorem dX5_bitsInParts_47 : decode cX5_bitsInParts 47 = .ok (.bipush 15, 2) := by decide +kernel
theorem dX5_bitsInParts_49 : decode cX5_bitsInParts 49 = .ok (.if_icmp .ge 59, 3) := by decide +kernel
theorem dX5_bitsInParts_52 : decode cX5_bitsInParts 52 = .ok (.ldc2_w 95, 3) := by decide +kernel
theorem dX5_bitsInParts_55 : decode cX5_bitsInParts 55 = .ok (.aload_n 0, 1) := by decide +kernel
theorem dX5_bitsInParts_56 : decode cX5_bitsInParts 56 = .ok (.getfield 15, 3) := by decide +kernel
theorem dX5_bitsInParts_59 : decode cX5_bitsInParts 59 = .ok (.iload 4, 2) := by decide +kernel
theorem dX5_bitsInParts_61 : decode cX5_bitsInParts 61 = .ok (.bipush 15, 2) := by decide +kernel
theorem dX5_bitsInParts_63 : decode cX5_bitsInParts 63 = .ok (.imul, 1) := by decide +kernel
theorem dX5_bitsInParts_64 : decode cX5_bitsInParts 64 = .ok (.iload 8, 2) := by decide +kernel
theorem dX5_bitsInParts_66 : decode cX5_bitsInParts 66 = .ok (.iadd, 1) := by decide +kernel
theorem dX5_bitsInParts_67 : decode cX5_bitsInParts 67 = .ok (.laload, 1) := by decide +kernel
theorem dX5_bitsInParts_68 : decode cX5_bitsInParts 68 = .ok (.ladd, 1) := by decide +kernel
theorem dX5_bitsInParts_69 : decode cX5_bitsInParts 69 = .ok (.iload 5, 2) := by decide +kernel
theorem dX5_bitsInParts_71 : decode cX5_bitsInParts 71 = .ok (.i2l, 1) := by decide +kernel
theorem dX5_bitsInParts_72 : decode cX5_bitsInParts 72 = .ok (.iconst 1, 1) := by decide +kernel
theorem dX5_bitsInParts_73 : decode cX5_bitsInParts 73 = .ok (.iload 8, 2) := by decide +kernel
theorem dX5_bitsInParts_75 : decode cX5_bitsInParts 75 = .ok (.iadd, 1) := by decide +kernel
theorem dX5_bitsInParts_76 : decode cX5_bitsInParts 76 = .ok (.i2l, 1) := by decide +kernel
theorem dX5_bitsInParts_77 : decode cX5_bitsInParts 77 = .ok (.lmul, 1) := by decide +kernel
theorem dX5_bitsInParts_78 : decode cX5_bitsInParts 78 = .ok (.ladd, 1) := by decide +kernel
theorem dX5_bitsInParts_79 : decode cX5_bitsInParts 79 = .ok (.lstore 9, 2) := by decide +kernel
theorem dX5_bitsInParts_81 : decode cX5_bitsInParts 81 = .ok (.lload 9, 2) := by decide +kernel
theorem dX5_bitsInParts_83 : decode cX5_bitsInParts 83 = .ok (.lload 6, 2) := by decide +kernel
theorem dX5_bitsInParts_85 : decode cX5_bitsInParts 85 = .ok (.lcmp, 1) := by decide +kernel
theorem dX5_bitsInParts_86 : decode cX5_bitsInParts 86 = .ok (.ifCond .ge 16, 3) := by decide +kernel
theorem dX5_bitsInParts_89 : decode cX5_bitsInParts 89 = .ok (.lload 9, 2) := by decide +kernel
theorem dX5_bitsInParts_91 : decode cX5_bitsInParts 91 = .ok (.lstore 6, 2) := by decide +kernel
theorem dX5_bitsInParts_93 : decode cX5_bitsInParts 93 = .ok (.aload_n 0, 1) := by decide +kernel
theorem dX5_bitsInParts_94 : decode cX5_bitsInParts 94 = .ok (.getfield 22, 3) := by decide +kernel
theorem dX5_bitsInParts_97 : decode cX5_bitsInParts 97 = .ok (.iload 4, 2) := by decide +kernel
theorem dX5_bitsInParts_99 : decode cX5_bitsInParts 99 = .ok (.iload 8, 2) := by decide +kernel
theorem dX5_bitsInParts_101 : decode cX5_bitsInParts 101 = .ok (.iastore, 1) := by decide +kernel
theorem dX5_bitsInParts_102 : decode cX5_bitsInParts 102 = .ok (.iinc 8 1, 3) := by decide +kernel
theorem dX5_bitsInParts_105 : decode cX5_bitsInParts 105 = .ok (.goto (-60), 3) := by decide +kernel
theorem dX5_bitsInParts_108 : decode cX5_bitsInParts 108 = .ok (.lload_n 2, 1) := by decide +kernel
theorem dX5_bitsInParts_109 : decode cX5_bitsInParts 109 = .ok (.lload 6, 2) := by decide +kernel
theorem dX5_bitsInParts_111 : decode cX5_bitsInParts 111 = .ok (.ladd, 1) := by decide +kernel
theorem dX5_bitsInParts_112 : decode cX5_bitsInParts 112 = .ok (.lstore_n 2, 1) := by decide +kernel
theorem dX5_bitsInParts_113 : decode cX5_bitsInParts 113 = .ok (.iinc 4 1, 3) := by decide +kernel
theorem dX5_bitsInParts_116 : decode cX5_bitsInParts 116 = .ok (.goto (-109), 3) := by decide +kernel
theorem dX5_bitsInParts_119 : decode cX5_bitsInParts 119 = .ok (.lload_n 2, 1) := by decide +kernel
theorem dX5_bitsInParts_120 : decode cX5_bitsInParts 120 = .ok (.lreturn, 1) := by decide +kernel
theorem dX5_joinPairs_0 : decode cX5_joinPairs 0 = .ok (.iconst 0, 1) := by decide +kernel
theorem dX5_joinPairs_1 : decode cX5_joinPairs 1 = .ok (.istore_n 2, 1) := by decide +kernel
theorem dX5_joinPairs_2 : decode cX5_joinPairs 2 = .ok (.iload_n 2, 1) := by decide +kernel
theorem dX5_joinPairs_3 : decode cX5_joinPairs 3 = .ok (.iconst 1, 1) := by decide +kernel
theorem dX5_joinPairs_4 : decode cX5_joinPairs 4 = .ok (.iload_n 1, 1) := by decide +kernel
theorem dX5_joinPairs_5 : decode cX5_joinPairs 5 = .ok (.ishl, 1) := by decide +kernel
theorem dX5_joinPairs_6 : decode cX5_joinPairs 6 = .ok (.iconst 1, 1) := by decide +kernel
theorem dX5_joinPairs_7 : decode cX5_joinPairs 7 = .ok (.ishr, 1) := by decide +kernel
theorem dX5_joinPairs_8 : decode cX5_joinPairs 8 = .ok (.if_icmp .ge 63, 3) := by decide +kernel
theorem dX5_joinPairs_11 : decode cX5_joinPairs 11 = .ok (.iconst 0, 1) := by decide +kernel
theorem dX5_joinPairs_12 : decode cX5_joinPairs 12 = .ok (.istore_n 3, 1) := by decide +kernel
theorem dX5_joinPairs_13 : decode cX5_joinPairs 13 = .ok (.iload_n 3, 1) := by decide +kernel
theorem dX5_joinPairs_14 : decode cX5_joinPairs 14 = .ok (.bipush 15, 2) := by decide +kernel
theorem dX5_joinPairs_16 : decode cX5_joinPairs 16 = .ok (.if_icmp .ge 49, 3) := by decide +kernel
theorem dX5_joinPairs_19 : decode cX5_joinPairs 19 = .ok (.aload_n 0, 1) := by decide +kernel
theorem dX5_joinPairs_20 : decode cX5_joinPairs 20 = .ok (.getfield 15, 3) := by decide +kernel
theorem dX5_joinPairs_23 : decode cX5_joinPairs 23 = .ok (.iload_n 2, 1) := by decide +kernel
theorem dX5_joinPairs_24 : decode cX5_joinPairs 24 = .ok (.bipush 15, 2) := by decide +kernel
theorem dX5_joinPairs_26 : decode cX5_joinPairs 26 = .ok (.imul, 1) := by decide +kernel
theorem dX5_joinPairs_27 : decode cX5_joinPairs 27 = .ok (.iload_n 3, 1) := by decide +kernel
theorem dX5_joinPairs_28 : decode cX5_joinPairs 28 = .ok (.iadd, 1) := by decide +kernel
theorem dX5_joinPairs_29 : decode cX5_joinPairs 29 = .ok (.aload_n 0, 1) := by decide +kernel
theorem dX5_joinPairs_30 : decode cX5_joinPairs 30 = .ok (.getfield 15, 3) := by decide +kernel
theorem dX5_joinPairs_33 : decode cX5_joinPairs 33 = .ok (.iconst 2, 1) := by decide +kernel
theorem dX5_joinPairs_34 : decode cX5_joinPairs 34 = .ok (.iload_n 2, 1) := by decide +kernel
theorem dX5_joinPairs_35 : decode cX5_joinPairs 35 = .ok (.imul, 1) := by decide +kernel
theorem dX5_joinPairs_36 : decode cX5_joinPairs 36 = .ok (.bipush 15, 2) := by decide +kernel
theorem dX5_joinPairs_38 : decode cX5_joinPairs 38 = .ok (.imul, 1) := by decide +kernel
theorem dX5_joinPairs_39 : decode cX5_joinPairs 39 = .ok (.iload_n 3, 1) := by decide +kernel
theorem dX5_joinPairs_40 : decode cX5_joinPairs 40 = .ok (.iadd, 1) := by decide +kernel
theorem dX5_joinPairs_41 : decode cX5_joinPairs 41 = .ok (.laload, 1) := by decide +kernel
theorem dX5_joinPairs_42 : decode cX5_joinPairs 42 = .ok (.aload_n 0, 1) := by decide +kernel
theorem dX5_joinPairs_43 : decode cX5_joinPairs 43 = .ok (.getfield 15, 3) := by decide +kernel
theorem dX5_joinPairs_46 : decode cX5_joinPairs 46 = .ok (.iconst 2, 1) := by decide +kernel
theorem dX5_joinPairs_47 : decode cX5_joinPairs 47 = .ok (.iload_n 2, 1) := by decide +kernel
theorem dX5_joinPairs_48 : decode cX5_joinPairs 48 = .ok (.imul, 1) := by decide +kernel
theorem dX5_joinPairs_49 : decode cX5_joinPairs 49 = .ok (.iconst 1, 1) := by decide +kernel
theorem dX5_joinPairs_50 : decode cX5_joinPairs 50 = .ok (.iadd, 1) := by decide +kernel
theorem dX5_joinPairs_51 : decode cX5_joinPairs 51 = .ok (.bipush 15, 2) := by decide +kernel
theorem dX5_joinPairs_53 : decode cX5_joinPairs 53 = .ok (.imul, 1) := by decide +kernel
theorem dX5_joinPairs_54 : decode cX5_joinPairs 54 = .ok (.iload_n 3, 1) := by decide +kernel
theorem dX5_joinPairs_55 : decode cX5_joinPairs 55 = .ok (.iadd, 1) := by decide +kernel
theorem dX5_joinPairs_56 : decode cX5_joinPairs 56 = .ok (.laload, 1) := by decide +kernel
theorem dX5_joinPairs_57 : decode cX5_joinPairs 57 = .ok (.ladd, 1) := by decide +kernel
theorem dX5_joinPairs_58 : decode cX5_joinPairs 58 = .ok (.lastore, 1) := by decide +kernel
theorem dX5_joinPairs_59 : decode cX5_joinPairs 59 = .ok (.iinc 3 1, 3) := by decide +kernel
theorem dX5_joinPairs_62 : decode cX5_joinPairs 62 = .ok (.goto (-49), 3) := by decide +kernel
theorem dX5_joinPairs_65 : decode cX5_joinPairs 65 = .ok (.iinc 2 1, 3) := by decide +kernel
theorem dX5_joinPairs_68 : decode cX5_joinPairs 68 = .ok (.goto (-66), 3) := by decide +kernel
theorem dX5_joinPairs_71 : decode cX5_joinPairs 71 = .ok (.return_, 1) := by decide +kernel
theorem dX5_write_0 : decode cX5_write 0 = .ok (.aload_n 1, 1) := by decide +kernel
theorem dX5_write_1 : decode cX5_write 1 = .ok (.iconst 2, 1) := by decide +kernel
theorem dX5_write_2 : decode cX5_write 2 = .ok (.lconst 0, 1) := by decide +kernel
theorem dX5_write_3 : decode cX5_write 3 = .ok (.invokevirtual 97, 3) := by decide +kernel
theorem dX5_write_6 : decode cX5_write 6 = .ok (.aload_n 1, 1) := by decide +kernel
theorem dX5_write_7 : decode cX5_write 7 = .ok (.iconst 4, 1) := by decide +kernel
theorem dX5_write_8 : decode cX5_write 8 = .ok (.aload_n 0, 1) := by decide +kernel
theorem dX5_write_9 : decode cX5_write 9 = .ok (.getfield 71, 3) := by decide +kernel
theorem dX5_write_12 : decode cX5_write 12 = .ok (.i2l, 1) := by decide +kernel
theorem dX5_write_13 : decode cX5_write 13 = .ok (.invokevirtual 97, 3) := by decide +kernel
theorem dX5_write_16 : decode cX5_write 16 = .ok (.aload_n 0, 1) := by decide +kernel
theorem dX5_write_17 : decode cX5_write 17 = .ok (.getfield 25, 3) := by decide +kernel
theorem dX5_write_20 : decode cX5_write 20 = .ok (.aload_n 0, 1) := by decide +kernel
theorem dX5_write_21 : decode cX5_write 21 = .ok (.getfield 71, 3) := by decide +kernel
theorem dX5_write_24 : decode cX5_write 24 = .ok (.ishr, 1) := by decide +kernel
theorem dX5_write_25 : decode cX5_write 25 = .ok (.istore_n 2, 1) := by decide +kernel
theorem dX5_write_26 : decode cX5_write 26 = .ok (.iconst 0, 1) := by decide +kernel
theorem dX5_write_27 : decode cX5_write 27 = .ok (.istore_n 3, 1) := by decide +kernel
theorem dX5_write_28 : decode cX5_write 28 = .ok (.iload_n 3, 1) := by decide +kernel
theorem dX5_write_29 : decode cX5_write 29 = .ok (.iconst 1, 1) := by decide +kernel
theorem dX5_write_30 : decode cX5_write 30 = .ok (.aload_n 0, 1) := by decide +kernel
theorem dX5_write_31 : decode cX5_write 31 = .ok (.getfield 71, 3) := by decide +kernel
theorem dX5_write_34 : decode cX5_write 34 = .ok (.ishl, 1) := by decide +kernel
theorem dX5_write_35 : decode cX5_write 35 = .ok (.if_icmp .ge 87, 3) := by decide +kernel
theorem dX5_write_38 : decode cX5_write 38 = .ok (.aload_n 0, 1) := by decide +kernel
theorem dX5_write_39 : decode cX5_write 39 = .ok (.getfield 18, 3) := by decide +kernel
theorem dX5_write_42 : decode cX5_write 42 = .ok (.iload_n 3, 1) := by decide +kernel
theorem dX5_write_43 : decode cX5_write 43 = .ok (.iaload, 1) := by decide +kernel
theorem dX5_write_44 : decode cX5_write 44 = .ok (.istore 4, 2) := by decide +kernel
theorem dX5_write_46 : decode cX5_write 46 = .ok (.aload_n 1, 1) := by decide +kernel
theorem dX5_write_47 : decode cX5_write 47 = .ok (.iconst 4, 1) := by decide +kernel
theorem dX5_write_48 : decode cX5_write 48 = .ok (.iload 4, 2) := by decide +kernel
theorem dX5_write_50 : decode cX5_write 50 = .ok (.i2l, 1) := by decide +kernel
theorem dX5_write_51 : decode cX5_write 51 = .ok (.invokevirtual 97, 3) := by decide +kernel
theorem dX5_write_54 : decode cX5_write 54 = .ok (.aload_n 0, 1) := by decide +kernel
theorem dX5_write_55 : decode cX5_write 55 = .ok (.getfield 34, 3) := by decide +kernel
theorem dX5_write_58 : decode cX5_write 58 = .ok (.iload_n 3, 1) := by decide +kernel
theorem dX5_write_59 : decode cX5_write 59 = .ok (.iload_n 2, 1) := by decide +kernel
theorem dX5_write_60 : decode cX5_write 60 = .ok (.imul, 1) := by decide +kernel
theorem dX5_write_61 : decode cX5_write 61 = .ok (.invokestatic 87, 3) := by decide +kernel
theorem dX5_write_64 : decode cX5_write 64 = .ok (.istore 5, 2) := by decide +kernel
theorem dX5_write_66 : decode cX5_write 66 = .ok (.iload 5, 2) := by decide +kernel
theorem dX5_write_68 : decode cX5_write 68 = .ok (.iload_n 3, 1) := by decide +kernel
theorem dX5_write_69 : decode cX5_write 69 = .ok (.iconst 1, 1) := by decide +kernel
theorem dX5_write_70 : decode cX5_write 70 = .ok (.iadd, 1) := by decide +kernel
theorem dX5_write_71 : decode cX5_write 71 = .ok (.iload_n 2, 1) := by decide +kernel
theorem dX5_write_72 : decode cX5_write 72 = .ok (.imul, 1) := by decide +kernel
theorem dX5_write_73 : decode cX5_write 73 = .ok (.if_icmp .ge 43, 3) := by decide +kernel
theorem dX5_write_76 : decode cX5_write 76 = .ok (.aload_n 1, 1) := by decide +kernel
theorem dX5_write_77 : decode cX5_write 77 = .ok (.aload_n 0, 1) := by decide +kernel
theorem dX5_write_78 : decode cX5_write 78 = .ok (.getfield 9, 3) := by decide +kernel
theorem dX5_write_81 : decode cX5_write 81 = .ok (.iload 5, 2) := by decide +kernel
theorem dX5_write_83 : decode cX5_write 83 = .ok (.laload, 1) := by decide +kernel
theorem dX5_write_84 : decode cX5_write 84 = .ok (.iload 4, 2) := by decide +kernel
theorem dX5_write_86 : decode cX5_write 86 = .ok (.lshr, 1) := by decide +kernel
theorem dX5_write_87 : decode cX5_write 87 = .ok (.l2i, 1) := by decide +kernel
theorem dX5_write_88 : decode cX5_write 88 = .ok (.invokevirtual 103, 3) := by decide +kernel
theorem dX5_write_91 : decode cX5_write 91 = .ok (.aload_n 1, 1) := by decide +kernel
theorem dX5_write_92 : decode cX5_write 92 = .ok (.iconst 1, 1) := by decide +kernel
theorem dX5_write_93 : decode cX5_write 93 = .ok (.lconst 1, 1) := by decide +kernel
theorem dX5_write_94 : decode cX5_write 94 = .ok (.invokevirtual 97, 3) := by decide +kernel
theorem dX5_write_97 : decode cX5_write 97 = .ok (.aload_n 1, 1) := by decide +kernel
theorem dX5_write_98 : decode cX5_write 98 = .ok (.iload 4, 2) := by decide +kernel
theorem dX5_write_100 : decode cX5_write 100 = .ok (.aload_n 0, 1) := by decide +kernel
theorem dX5_write_101 : decode cX5_write 101 = .ok (.getfield 9, 3) := by decide +kernel
theorem dX5_write_104 : decode cX5_write 104 = .ok (.iload 5, 2) := by decide +kernel
theorem dX5_write_106 : decode cX5_write 106 = .ok (.laload, 1) := by decide +kernel
theorem dX5_write_107 : decode cX5_write 107 = .ok (.invokevirtual 97, 3) := by decide +kernel
theorem dX5_write_110 : decode cX5_write 110 = .ok (.iinc 5 1, 3) := by decide +kernel
theorem dX5_write_113 : decode cX5_write 113 = .ok (.goto (-47), 3) := by decide +kernel
theorem dX5_write_116 : decode cX5_write 116 = .ok (.iinc 3 1, 3) := by decide +kernel
theorem dX5_write_119 : decode cX5_write 119 = .ok (.goto (-91), 3) := by decide +kernel
theorem dX5_write_122 : decode cX5_write 122 = .ok (.return_, 1) := by decide +kernel
theorem dX6_init_0 : decode cX6_init 0 = .ok (.aload_n 0, 1) := by decide +kernel
theorem dX6_init_1 : decode cX6_init 1 = .ok (.invokespecial 1, 3) := by decide +kernel
theorem dX6_init_4 : decode cX6_init 4 = .ok (.aload_n 0, 1) := by decide +kernel
theorem dX6_init_5 : decode cX6_init 5 = .ok (.iconst 1, 1) := by decide +kernel
theorem dX6_init_6 : decode cX6_init 6 = .ok (.putfield 7, 3) := by decide +kernel
theorem dX6_init_9 : decode cX6_init 9 = .ok (.aload_n 0, 1) := by decide +kernel
theorem dX6_init_10 : decode cX6_init 10 = .ok (.bipush 16, 2) := by decide +kernel
theorem dX6_init_12 : decode cX6_init 12 = .ok (.putfield 13, 3) := by decide +kernel
theorem dX6_init_15 : decode cX6_init 15 = .ok (.aload_n 0, 1) := by decide +kernel
theorem dX6_init_16 : decode cX6_init 16 = .ok (.bipush 64, 2) := by decide +kernel
theorem dX6_init_18 : decode cX6_init 18 = .ok (.putfield 16, 3) := by decide +kernel
theorem dX6_init_21 : decode cX6_init 21 = .ok (.aload_n 0, 1) := by decide +kernel
theorem dX6_init_22 : decode cX6_init 22 = .ok (.ldc 19, 2) := by decide +kernel
theorem dX6_init_24 : decode cX6_init 24 = .ok (.putfield 20, 3) := by decide +kernel
theorem dX6_init_27 : decode cX6_init 27 = .ok (.return_, 1) := by decide +kernel
theorem dX6_become_0 : decode cX6_become 0 = .ok (.aload_n 0, 1) := by decide +kernel
theorem dX6_become_1 : decode cX6_become 1 = .ok (.aload_n 1, 1) := by decide +kernel
theorem dX6_become_2 : decode cX6_become 2 = .ok (.getfield 7, 3) := by decide +kernel
theorem dX6_become_5 : decode cX6_become 5 = .ok (.putfield 7, 3) := by decide +kernel
theorem dX6_become_8 : decode cX6_become 8 = .ok (.aload_n 0, 1) := by decide +kernel
theorem dX6_become_9 : decode cX6_become 9 = .ok (.aload_n 1, 1) := by decide +kernel
theorem dX6_become_10 : decode cX6_become 10 = .ok (.getfield 13, 3) := by decide +kernel
theorem dX6_become_13 : decode cX6_become 13 = .ok (.putfield 13, 3) := by decide +kernel
theorem dX6_become_16 : decode cX6_become 16 = .ok (.aload_n 0, 1) := by decide +kernel
theorem dX6_become_17 : decode cX6_become 17 = .ok (.aload_n 1, 1) := by decide +kernel
theorem dX6_become_18 : decode cX6_become 18 = .ok (.getfield 16, 3) := by decide +kernel
theorem dX6_become_21 : decode cX6_become 21 = .ok (.putfield 16, 3) := by decide +kernel
theorem dX6_become_24 : decode cX6_become 24 = .ok (.aload_n 0, 1) := by decide +kernel
theorem dX6_become_25 : decode cX6_become 25 = .ok (.aload_n 1, 1) := by decide +kernel
theorem dX6_become_26 : decode cX6_become 26 = .ok (.getfield 20, 3) := by decide +kernel
theorem dX6_become_29 : decode cX6_become 29 = .ok (.putfield 20, 3) := by decide +kernel
theorem dX6_become_32 : decode cX6_become 32 = .ok (.return_, 1) := by decide +kernel
theorem dX7_init_0 : decode cX7_init 0 = .ok (.aload_n 0, 1) := by decide +kernel
theorem dX7_init_1 : decode cX7_init 1 = .ok (.invokespecial 3, 3) := by decide +kernel
theorem dX7_init_4 : decode cX7_init 4 = .ok (.aload_n 0, 1) := by decide +kernel
theorem dX7_init_5 : decode cX7_init 5 = .ok (.sipush 256, 3) := by decide +kernel
theorem dX7_init_8 : decode cX7_init 8 = .ok (.newarray .int, 2) := by decide +kernel
theorem dX7_init_10 : decode cX7_init 10 = .ok (.putfield 9, 3) := by decide +kernel
theorem dX7_init_13 : decode cX7_init 13 = .ok (.return_, 1) := by decide +kernel
theorem dX7_begin_0 : decode cX7_begin 0 = .ok (.aload_n 0, 1) := by decide +kernel
theorem dX7_begin_1 : decode cX7_begin 1 = .ok (.iload_n 1, 1) := by decide +kernel
theorem dX7_begin_2 : decode cX7_begin 2 = .ok (.putfield 15, 3) := by decide +kernel
theorem dX7_begin_5 : decode cX7_begin 5 = .ok (.aload_n 0, 1) := by decide +kernel
theorem dX7_begin_6 : decode cX7_begin 6 = .ok (.iload_n 2, 1) := by decide +kernel
theorem dX7_begin_7 : decode cX7_begin 7 = .ok (.putfield 19, 3) := by decide +kernel
theorem dX7_begin_10 : decode cX7_begin 10 = .ok (.aload_n 0, 1) := by decide +kernel
theorem dX7_begin_11 : decode cX7_begin 11 = .ok (.iconst 0, 1) := by decide +kernel
theorem dX7_begin_12 : decode cX7_begin 12 = .ok (.putfield 22, 3) := by decide +kernel
theorem dX7_begin_15 : decode cX7_begin 15 = .ok (.aload_n 0, 1) := by decide +kernel
theorem dX7_begin_16 : decode cX7_begin 16 = .ok (.ldc2_w 25, 3) := by decide +kernel
theorem dX7_begin_19 : decode cX7_begin 19 = .ok (.putfield 27, 3) := by decide +kernel
theorem dX7_begin_22 : decode cX7_begin 22 = .ok (.return_, 1) := by decide +kernel
theorem dX7_dropWasted_0 : decode cX7_dropWasted 0 = .ok (.iconst 0, 1) := by decide +kernel
theorem dX7_dropWasted_1 : decode cX7_dropWasted 1 = .ok (.istore_n 1, 1) := by decide +kernel
theorem dX7_dropWasted_2 : decode cX7_dropWasted 2 = .ok (.iconst 0, 1) := by decide +kernel
theorem dX7_dropWasted_3 : decode cX7_dropWasted 3 = .ok (.istore_n 2, 1) := by decide +kernel
theorem dX7_dropWasted_4 : decode cX7_dropWasted 4 = .ok (.iload_n 2, 1) := by decide +kernel
theorem dX7_dropWasted_5 : decode cX7_dropWasted 5 = .ok (.aload_n 0, 1) := by decide +kernel
theorem dX7_dropWasted_6 : decode cX7_dropWasted 6 = .ok (.getfield 15, 3) := by decide +kernel
theorem dX7_dropWasted_9 : decode cX7_dropWasted 9 = .ok (.if_icmp .ge 18, 3) := by decide +kernel
theorem dX7_dropWasted_12 : decode cX7_dropWasted 12 = .ok (.iload_n 1, 1) := by decide +kernel
theorem dX7_dropWasted_13 : decode cX7_dropWasted 13 = .ok (.aload_n 0, 1) := by decide +kernel
theorem dX7_dropWasted_14 : decode cX7_dropWasted 14 = .ok (.getfield 9, 3) := by decide +kernel
theorem dX7_dropWasted_17 : decode cX7_dropWasted 17 = .ok (.iload_n 2, 1) := by decide +kernel
theorem dX7_dropWasted_18 : decode cX7_dropWasted 18 = .ok (.iaload, 1) := by decide +kernel
theorem dX7_dropWasted_19 : decode cX7_dropWasted 19 = .ok (.ior, 1) := by decide +kernel
theorem dX7_dropWasted_20 : decode cX7_dropWasted 20 = .ok (.istore_n 1, 1) := by decide +kernel
theorem dX7_dropWasted_21 : decode cX7_dropWasted 21 = .ok (.iinc 2 1, 3) := by decide +kernel
theorem dX7_dropWasted_24 : decode cX7_dropWasted 24 = .ok (.goto (-20), 3) := by decide +kernel
theorem dX7_dropWasted_27 : decode cX7_dropWasted 27 = .ok (.iload_n 1, 1) := by decide +kernel
theorem dX7_dropWasted_28 : decode cX7_dropWasted 28 = .ok (.ifCond .eq 39, 3) := by decide +kernel
theorem dX7_dropWasted_31 : decode cX7_dropWasted 31 = .ok (.iload_n 1, 1) := by decide +kernel
theorem dX7_dropWasted_32 : decode cX7_dropWasted 32 = .ok (.iconst 1, 1) := by decide +kernel
theorem dX7_dropWasted_33 : decode cX7_dropWasted 33 = .ok (.iand, 1) := by decide +kernel
theorem dX7_dropWasted_34 : decode cX7_dropWasted 34 = .ok (.ifCond .ne 33, 3) := by decide +kernel
theorem dX7_dropWasted_37 : decode cX7_dropWasted 37 = .ok (.aload_n 0, 1) := by decide +kernel
theorem dX7_dropWasted_38 : decode cX7_dropWasted 38 = .ok (.getfield 22, 3) := by decide +kernel
theorem dX7_dropWasted_41 : decode cX7_dropWasted 41 = .ok (.aload_n 0, 1) := by decide +kernel
theorem dX7_dropWasted_42 : decode cX7_dropWasted 42 = .ok (.getfield 19, 3) := by decide +kernel
theorem dX7_dropWasted_45 : decode cX7_dropWasted 45 = .ok (.iconst 1, 1) := by decide +kernel
theorem dX7_dropWasted_46 : decode cX7_dropWasted 46 = .ok (.isub, 1) := by decide +kernel
theorem dX7_dropWasted_47 : decode cX7_dropWasted 47 = .ok (.if_icmp .ge 20, 3) := by decide +kernel
theorem dX7_dropWasted_50 : decode cX7_dropWasted 50 = .ok (.iload_n 1, 1) := by decide +kernel
theorem dX7_dropWasted_51 : decode cX7_dropWasted 51 = .ok (.iconst 1, 1) := by decide +kernel
theorem dX7_dropWasted_52 : decode cX7_dropWasted 52 = .ok (.ishr, 1) := by decide +kernel
theorem dX7_dropWasted_53 : decode cX7_dropWasted 53 = .ok (.istore_n 1, 1) := by decide +kernel
theorem dX7_dropWasted_54 : decode cX7_dropWasted 54 = .ok (.aload_n 0, 1) := by decide +kernel
theorem dX7_dropWasted_55 : decode cX7_dropWasted 55 = .ok (.dup, 1) := by decide +kernel
theorem dX7_dropWasted_56 : decode cX7_dropWasted 56 = .ok (.getfield 22, 3) := by decide +kernel
theorem dX7_dropWasted_59 : decode cX7_dropWasted 59 = .ok (.iconst 1, 1) := by decide +kernel
theorem dX7_dropWasted_60 : decode cX7_dropWasted 60 = .ok (.iadd, 1) := by decide +kernel
theorem dX7_dropWasted_61 : decode cX7_dropWasted 61 = .ok (.putfield 22, 3) := by decide +kernel
theorem dX7_dropWasted_64 : decode cX7_dropWasted 64 = .ok (.goto (-37), 3) := by decide +kernel
theorem dX7_dropWasted_67 : decode cX7_dropWasted 67 = .ok (.iconst 0, 1) := by decide +kernel
theorem dX7_dropWasted_68 : decode cX7_dropWasted 68 = .ok (.istore_n 2, 1) := by decide +kernel
theorem dX7_dropWasted_69 : decode cX7_dropWasted 69 = .ok (.iload_n 2, 1) := by decide +kernel
theorem dX7_dropWasted_70 : decode cX7_dropWasted 70 = .ok (.aload_n 0, 1) := by decide +kernel
theorem dX7_dropWasted_71 : decode cX7_dropWasted 71 = .ok (.getfield 15, 3) := by decide +kernel
theorem dX7_dropWasted_74 : decode cX7_dropWasted 74 = .ok (.if_icmp .ge 29, 3) := by decide +kernel
theorem dX7_dropWasted_77 : decode cX7_dropWasted 77 = .ok (.aload_n 0, 1) := by decide +kernel
theorem dX7_dropWasted_78 : decode cX7_dropWasted 78 = .ok (.getfield 22, 3) := by decide +kernel
theorem dX7_dropWasted_81 : decode cX7_dropWasted 81 = .ok (.ifCond .le 22, 3) := by decide +kernel
theorem dX7_dropWasted_84 : decode cX7_dropWasted 84 = .ok (.aload_n 0, 1) := by decide +kernel
theorem dX7_dropWasted_85 : decode cX7_dropWasted 85 = .ok (.getfield 9, 3) := by decide +kernel
theorem dX7_dropWasted_88 : decode cX7_dropWasted 88 = .ok (.iload_n 2, 1) := by decide +kernel
theorem dX7_dropWasted_89 : decode cX7_dropWasted 89 = .ok (.dup2, 1) := by decide +kernel
theorem dX7_dropWasted_90 : decode cX7_dropWasted 90 = .ok (.iaload, 1) := by decide +kernel
theorem dX7_dropWasted_91 : decode cX7_dropWasted 91 = .ok (.aload_n 0, 1) := by decide +kernel
theorem dX7_dropWasted_92 : decode cX7_dropWasted 92 = .ok (.getfield 22, 3) := by decide +kernel
theorem dX7_dropWasted_95 : decode cX7_dropWasted 95 = .ok (.ishr, 1) := by decide +kernel
theorem dX7_dropWasted_96 : decode cX7_dropWasted 96 = .ok (.iastore, 1) := by decide +kernel
theorem dX7_dropWasted_97 : decode cX7_dropWasted 97 = .ok (.iinc 2 1, 3) := by decide +kernel
theorem dX7_dropWasted_100 : decode cX7_dropWasted 100 = .ok (.goto (-31), 3) := by decide +kernel
theorem dX7_dropWasted_103 : decode cX7_dropWasted 103 = .ok (.aload_n 0, 1) := by decide +kernel
theorem dX7_dropWasted_104 : decode cX7_dropWasted 104 = .ok (.dup, 1) := by decide +kernel
theorem dX7_dropWasted_105 : decode cX7_dropWasted 105 = .ok (.getfield 19, 3) := by decide +kernel
theorem dX7_dropWasted_108 : decode cX7_dropWasted 108 = .ok (.aload_n 0, 1) := by decide +kernel
theorem dX7_dropWasted_109 : decode cX7_dropWasted 109 = .ok (.getfield 22, 3) := by decide +kernel
theorem dX7_dropWasted_112 : decode cX7_dropWasted 112 = .ok (.isub, 1) := by decide +kernel
theorem dX7_dropWasted_113 : decode cX7_dropWasted 113 = .ok (.putfield 19, 3) := by decide +kernel
theorem dX7_dropWasted_116 : decode cX7_dropWasted 116 = .ok (.return_, 1) := by decide +kernel
theorem dX7_isOneNumber_0 : decode cX7_isOneNumber 0 = .ok (.iconst 1, 1) := by decide +kernel
theorem dX7_isOneNumber_1 : decode cX7_isOneNumber 1 = .ok (.istore_n 1, 1) := by decide +kernel
theorem dX7_isOneNumber_2 : decode cX7_isOneNumber 2 = .ok (.iload_n 1, 1) := by decide +kernel
theorem dX7_isOneNumber_3 : decode cX7_isOneNumber 3 = .ok (.aload_n 0, 1) := by decide +kernel
theorem dX7_isOneNumber_4 : decode cX7_isOneNumber 4 = .ok (.getfield 15, 3) := by decide +kernel
theorem dX7_isOneNumber_7 : decode cX7_isOneNumber 7 = .ok (.if_icmp .ge 26, 3) := by decide +kernel
theorem dX7_isOneNumber_10 : decode cX7_isOneNumber 10 = .ok (.aload_n 0, 1) := by decide +kernel
theorem dX7_isOneNumber_11 : decode cX7_isOneNumber 11 = .ok (.getfield 9, 3) := by decide +kernel
theorem dX7_isOneNumber_14 : decode cX7_isOneNumber 14 = .ok (.iload_n 1, 1) := by decide +kernel
theorem dX7_isOneNumber_15 : decode cX7_isOneNumber 15 = .ok (.iaload, 1) := by decide +kernel
theorem dX7_isOneNumber_16 : decode cX7_isOneNumber 16 = .ok (.aload_n 0, 1) := by decide +kernel
theorem dX7_isOneNumber_17 : decode cX7_isOneNumber 17 = .ok (.getfield 9, 3) := by decide +kernel
theorem dX7_isOneNumber_20 : decode cX7_isOneNumber 20 = .ok (.iconst 0, 1) := by decide +kernel
theorem dX7_isOneNumber_21 : decode cX7_isOneNumber 21 = .ok (.iaload, 1) := by decide +kernel
theorem dX7_isOneNumber_22 : decode cX7_isOneNumber 22 = .ok (.if_icmp .eq 5, 3) := by decide +kernel
theorem dX7_isOneNumber_25 : decode cX7_isOneNumber 25 = .ok (.iconst 0, 1) := by decide +kernel
theorem dX7_isOneNumber_26 : decode cX7_isOneNumber 26 = .ok (.ireturn, 1) := by decide +kernel
theorem dX7_isOneNumber_27 : decode cX7_isOneNumber 27 = .ok (.iinc 1 1, 3) := by decide +kernel
theorem dX7_isOneNumber_30 : decode cX7_isOneNumber 30 = .ok (.goto (-28), 3) := by decide +kernel
theorem dX7_isOneNumber_33 : decode cX7_isOneNumber 33 = .ok (.iconst 1, 1) := by decide +kernel
theorem dX7_isOneNumber_34 : decode cX7_isOneNumber 34 = .ok (.ireturn, 1) := by decide +kernel
theorem dX7_offer_0 : decode cX7_offer 0 = .ok (.lload_n 2, 1) := by decide +kernel
theorem dX7_offer_1 : decode cX7_offer 1 = .ok (.aload_n 0, 1) := by decide +kernel
theorem dX7_offer_2 : decode cX7_offer 2 = .ok (.getfield 27, 3) := by decide +kernel
theorem dX7_offer_5 : decode cX7_offer 5 = .ok (.lcmp, 1) := by decide +kernel
theorem dX7_offer_6 : decode cX7_offer 6 = .ok (.ifCond .ge 19, 3) := by decide +kernel
theorem dX7_offer_9 : decode cX7_offer 9 = .ok (.aload_n 0, 1) := by decide +kernel
theorem dX7_offer_10 : decode cX7_offer 10 = .ok (.iload_n 1, 1) := by decide +kernel
theorem dX7_offer_11 : decode cX7_offer 11 = .ok (.putfield 31, 3) := by decide +kernel
theorem dX7_offer_14 : decode cX7_offer 14 = .ok (.aload_n 0, 1) := by decide +kernel
theorem dX7_offer_15 : decode cX7_offer 15 = .ok (.lload_n 2, 1) := by decide +kernel
theorem dX7_offer_16 : decode cX7_offer 16 = .ok (.putfield 27, 3) := by decide +kernel
theorem dX7_offer_19 : decode cX7_offer 19 = .ok (.aload_n 0, 1) := by decide +kernel
theorem dX7_offer_20 : decode cX7_offer 20 = .ok (.iload 4, 2) := by decide +kernel
theorem dX7_offer_22 : decode cX7_offer 22 = .ok (.putfield 34, 3) := by decide +kernel
theorem dX7_offer_25 : decode cX7_offer 25 = .ok (.return_, 1) := by decide +kernel
theorem dX8_init_0 : decode cX8_init 0 = .ok (.aload_n 0, 1) := by decide +kernel
theorem dX8_init_1 : decode cX8_init 1 = .ok (.invokespecial 3, 3) := by decide +kernel
theorem dX8_init_4 : decode cX8_init 4 = .ok (.aload_n 0, 1) := by decide +kernel
theorem dX8_init_5 : decode cX8_init 5 = .ok (.new 9, 3) := by decide +kernel
theorem dX8_init_8 : decode cX8_init 8 = .ok (.dup, 1) := by decide +kernel
theorem dX8_init_9 : decode cX8_init 9 = .ok (.invokespecial 11, 3) := by decide +kernel
theorem dX8_init_12 : decode cX8_init 12 = .ok (.putfield 12, 3) := by decide +kernel
theorem dX8_init_15 : decode cX8_init 15 = .ok (.aload_n 0, 1) := by decide +kernel
theorem dX8_init_16 : decode cX8_init 16 = .ok (.new 16, 3) := by decide +kernel
theorem dX8_init_19 : decode cX8_init 19 = .ok (.dup, 1) := by decide +kernel
theorem dX8_init_20 : decode cX8_init 20 = .ok (.bipush 8, 2) := by decide +kernel
theorem dX8_init_22 : decode cX8_init 22 = .ok (.invokespecial 18, 3) := by decide +kernel
theorem dX8_init_25 : decode cX8_init 25 = .ok (.putfield 21, 3) := by decide +kernel
theorem dX8_init_28 : decode cX8_init 28 = .ok (.aload_n 0, 1) := by decide +kernel
theorem dX8_init_29 : decode cX8_init 29 = .ok (.sipush 4096, 3) := by decide +kernel
theorem dX8_init_32 : decode cX8_init 32 = .ok (.newarray .int, 2) := by decide +kernel
theorem dX8_init_34 : decode cX8_init 34 = .ok (.putfield 25, 3) := by decide +kernel
theorem dX8_init_37 : decode cX8_init 37 = .ok (.aload_n 0, 1) := by decide +kernel
theorem dX8_init_38 : decode cX8_init 38 = .ok (.iconst 0, 1) := by decide +kernel
theorem dX8_init_39 : decode cX8_init 39 = .ok (.putfield 29, 3) := by decide +kernel
theorem dX8_init_42 : decode cX8_init 42 = .ok (.aload_n 0, 1) := by decide +kernel
theorem dX8_init_43 : decode cX8_init 43 = .ok (.new 33, 3) := by decide +kernel
theorem dX8_init_46 : decode cX8_init 46 = .ok (.dup, 1) := by decide +kernel
theorem dX8_init_47 : decode cX8_init 47 = .ok (.invokespecial 35, 3) := by decide +kernel
theorem dX8_init_50 : decode cX8_init 50 = .ok (.putfield 36, 3) := by decide +kernel
theorem dX8_init_53 : decode cX8_init 53 = .ok (.aload_n 0, 1) := by decide +kernel
theorem dX8_init_54 : decode cX8_init 54 = .ok (.new 40, 3) := by decide +kernel
theorem dX8_init_57 : decode cX8_init 57 = .ok (.dup, 1) := by decide +kernel
theorem dX8_init_58 : decode cX8_init 58 = .ok (.invokespecial 42, 3) := by decide +kernel
theorem dX8_init_61 : decode cX8_init 61 = .ok (.putfield 43, 3) := by decide +kernel
theorem dX8_init_64 : decode cX8_init 64 = .ok (.return_, 1) := by decide +kernel
theorem dX8_shape_0 : decode cX8_shape 0 = .ok (.iload_n 1, 1) := by decide +kernel
theorem dX8_shape_1 : decode cX8_shape 1 = .ok (.i2l, 1) := by decide +kernel
theorem dX8_shape_2 : decode cX8_shape 2 = .ok (.lconst 1, 1) := by decide +kernel
theorem dX8_shape_3 : decode cX8_shape 3 = .ok (.ldc2_w 47, 3) := by decide +kernel
theorem dX8_shape_6 : decode cX8_shape 6 = .ok (.invokestatic 49, 3) := by decide +kernel
theorem dX8_shape_9 : decode cX8_shape 9 = .ok (.ifCond .eq 44, 3) := by decide +kernel
theorem dX8_shape_12 : decode cX8_shape 12 = .ok (.iload_n 2, 1) := by decide +kernel
theorem dX8_shape_13 : decode cX8_shape 13 = .ok (.i2l, 1) := by decide +kernel
theorem dX8_shape_14 : decode cX8_shape 14 = .ok (.ldc2_w 53, 3) := by decide +kernel
theorem dX8_shape_17 : decode cX8_shape 17 = .ok (.ldc2_w 55, 3) := by decide +kernel
theorem dX8_shape_20 : decode cX8_shape 20 = .ok (.invokestatic 49, 3) := by decide +kernel
theorem dX8_shape_23 : decode cX8_shape 23 = .ok (.ifCond .eq 30, 3) := by decide +kernel
theorem dX8_shape_26 : decode cX8_shape 26 = .ok (.iload_n 3, 1) := by decide +kernel
theorem dX8_shape_27 : decode cX8_shape 27 = .ok (.i2l, 1) := by decide +kernel
theorem dX8_shape_28 : decode cX8_shape 28 = .ok (.ldc2_w 57, 3) := by decide +kernel
theorem dX8_shape_31 : decode cX8_shape 31 = .ok (.ldc2_w 59, 3) := by decide +kernel
theorem dX8_shape_34 : decode cX8_shape 34 = .ok (.invokestatic 49, 3) := by decide +kernel
theorem dX8_shape_37 : decode cX8_shape 37 = .ok (.ifCond .eq 16, 3) := by decide +kernel
theorem dX8_shape_40 : decode cX8_shape 40 = .ok (.iload 4, 2) := by decide +kernel
theorem dX8_shape_42 : decode cX8_shape 42 = .ok (.i2l, 1) := by decide +kernel
theorem dX8_shape_43 : decode cX8_shape 43 = .ok (.lconst 1, 1) := by decide +kernel
theorem dX8_shape_44 : decode cX8_shape 44 = .ok (.ldc2_w 61, 3) := by decide +kernel
theorem dX8_shape_47 : decode cX8_shape 47 = .ok (.invokestatic 49, 3) := by decide +kernel
theorem dX8_shape_50 : decode cX8_shape 50 = .ok (.ifCond .ne 11, 3) := by decide +kernel
theorem dX8_shape_53 : decode cX8_shape 53 = .ok (.new 63, 3) := by decide +kernel
theorem dX8_shape_56 : decode cX8_shape 56 = .ok (.dup, 1) := by decide +kernel
theorem dX8_shape_57 : decode cX8_shape 57 = .ok (.invokespecial 65, 3) := by decide +kernel
theorem dX8_shape_60 : decode cX8_shape 60 = .ok (.athrow, 1) := by decide +kernel
theorem dX8_shape_61 : decode cX8_shape 61 = .ok (.aload_n 0, 1) := by decide +kernel
theorem dX8_shape_62 : decode cX8_shape 62 = .ok (.getfield 12, 3) := by decide +kernel
theorem dX8_shape_65 : decode cX8_shape 65 = .ok (.iload_n 1, 1) := by decide +kernel
theorem dX8_shape_66 : decode cX8_shape 66 = .ok (.putfield 66, 3) := by decide +kernel
theorem dX8_shape_69 : decode cX8_shape 69 = .ok (.aload_n 0, 1) := by decide +kernel
theorem dX8_shape_70 : decode cX8_shape 70 = .ok (.getfield 12, 3) := by decide +kernel
theorem dX8_shape_73 : decode cX8_shape 73 = .ok (.iload_n 2, 1) := by decide +kernel
theorem dX8_shape_74 : decode cX8_shape 74 = .ok (.putfield 69, 3) := by decide +kernel
theorem dX8_shape_77 : decode cX8_shape 77 = .ok (.aload_n 0, 1) := by decide +kernel
theorem dX8_shape_78 : decode cX8_shape 78 = .ok (.getfield 12, 3) := by decide +kernel
theorem dX8_shape_81 : decode cX8_shape 81 = .ok (.iload_n 3, 1) := by decide +kernel
theorem dX8_shape_82 : decode cX8_shape 82 = .ok (.putfield 72, 3) := by decide +kernel
theorem dX8_shape_85 : decode cX8_shape 85 = .ok (.aload_n 0, 1) := by decide +kernel
theorem dX8_shape_86 : decode cX8_shape 86 = .ok (.getfield 12, 3) := by decide +kernel
theorem dX8_shape_89 : decode cX8_shape 89 = .ok (.iload 4, 2) := by decide +kernel
theorem dX8_shape_91 : decode cX8_shape 91 = .ok (.putfield 75, 3) := by decide +kernel
theorem dX8_shape_94 : decode cX8_shape 94 = .ok (.aload_n 0, 1) := by decide +kernel
theorem dX8_shape_95 : decode cX8_shape 95 = .ok (.iconst 0, 1) := by decide +kernel
theorem dX8_shape_96 : decode cX8_shape 96 = .ok (.putfield 29, 3) := by decide +kernel
theorem dX8_shape_99 : decode cX8_shape 99 = .ok (.return_, 1) := by decide +kernel
theorem dX8_predict_0 : decode cX8_predict 0 = .ok (.iload_n 1, 1) := by decide +kernel
theorem dX8_predict_1 : decode cX8_predict 1 = .ok (.i2l, 1) := by decide +kernel
theorem dX8_predict_2 : decode cX8_predict 2 = .ok (.lconst 0, 1) := by decide +kernel
theorem dX8_predict_3 : decode cX8_predict 3 = .ok (.ldc2_w 78, 3) := by decide +kernel
theorem dX8_predict_6 : decode cX8_predict 6 = .ok (.invokestatic 49, 3) := by decide +kernel
theorem dX8_predict_9 : decode cX8_predict 9 = .ok (.ifCond .ne 11, 3) := by decide +kernel
theorem dX8_predict_12 : decode cX8_predict 12 = .ok (.new 63, 3) := by decide +kernel
theorem dX8_predict_15 : decode cX8_predict 15 = .ok (.dup, 1) := by decide +kernel
theorem dX8_predict_16 : decode cX8_predict 16 = .ok (.invokespecial 65, 3) := by decide +kernel
theorem dX8_predict_19 : decode cX8_predict 19 = .ok (.athrow, 1) := by decide +kernel
theorem dX8_predict_20 : decode cX8_predict 20 = .ok (.aload_n 0, 1) := by decide +kernel
theorem dX8_predict_21 : decode cX8_predict 21 = .ok (.getfield 21, 3) := by decide +kernel
theorem dX8_predict_24 : decode cX8_predict 24 = .ok (.iload_n 1, 1) := by decide +kernel
theorem dX8_predict_25 : decode cX8_predict 25 = .ok (.invokevirtual 80, 3) := by decide +kernel
theorem dX8_predict_28 : decode cX8_predict 28 = .ok (.return_, 1) := by decide +kernel
theorem dX8_coefficient_0 : decode cX8_coefficient 0 = .ok (.iload_n 1, 1) := by decide +kernel
theorem dX8_coefficient_1 : decode cX8_coefficient 1 = .ok (.i2l, 1) := by decide +kernel
theorem dX8_coefficient_2 : decode cX8_coefficient 2 = .ok (.bipush 15, 2) := by decide +kernel
theorem dX8_coefficient_4 : decode cX8_coefficient 4 = .ok (.invokestatic 83, 3) := by decide +kernel
theorem dX8_coefficient_7 : decode cX8_coefficient 7 = .ok (.ifCond .ne 11, 3) := by decide +kernel
theorem dX8_coefficient_10 : decode cX8_coefficient 10 = .ok (.new 63, 3) := by decide +kernel
theorem dX8_coefficient_13 : decode cX8_coefficient 13 = .ok (.dup, 1) := by decide +kernel
theorem dX8_coefficient_14 : decode cX8_coefficient 14 = .ok (.invokespecial 65, 3) := by decide +kernel
theorem dX8_coefficient_17 : decode cX8_coefficient 17 = .ok (.athrow, 1) := by decide +kernel
theorem dX8_coefficient_18 : decode cX8_coefficient 18 = .ok (.aload_n 0, 1) := by decide +kernel
theorem dX8_coefficient_19 : decode cX8_coefficient 19 = .ok (.getfield 21, 3) := by decide +kernel
theorem dX8_coefficient_22 : decode cX8_coefficient 22 = .ok (.getfield 87, 3) := by decide +kernel
theorem dX8_coefficient_25 : decode cX8_coefficient 25 = .ok (.bipush 8, 2) := by decide +kernel
theorem dX8_coefficient_27 : decode cX8_coefficient 27 = .ok (.if_icmp .lt 11, 3) := by decide +kernel
theorem dX8_coefficient_30 : decode cX8_coefficient 30 = .ok (.new 90, 3) := by decide +kernel
theorem dX8_coefficient_33 : decode cX8_coefficient 33 = .ok (.dup, 1) := by decide +kernel
theorem dX8_coefficient_34 : decode cX8_coefficient 34 = .ok (.invokespecial 92, 3) := by decide +kernel
theorem dX8_coefficient_37 : decode cX8_coefficient 37 = .ok (.athrow, 1) := by decide +kernel
theorem dX8_coefficient_38 : decode cX8_coefficient 38 = .ok (.aload_n 0, 1) := by decide +kernel
theorem dX8_coefficient_39 : decode cX8_coefficient 39 = .ok (.getfield 21, 3) := by decide +kernel
theorem dX8_coefficient_42 : decode cX8_coefficient 42 = .ok (.iload_n 1, 1) := by decide +kernel
theorem dX8_coefficient_43 : decode cX8_coefficient 43 = .ok (.invokevirtual 93, 3) := by decide +kernel
theorem dX8_coefficient_46 : decode cX8_coefficient 46 = .ok (.return_, 1) := by decide +kernel
theorem dX8_push_0 : decode cX8_push 0 = .ok (.iload_n 1, 1) := by decide +kernel
theorem dX8_push_1 : decode cX8_push 1 = .ok (.i2l, 1) := by decide +kernel
theorem dX8_push_2 : decode cX8_push 2 = .ok (.aload_n 0, 1) := by decide +kernel
theorem dX8_push_3 : decode cX8_push 3 = .ok (.getfield 12, 3) := by decide +kernel
theorem dX8_push_6 : decode cX8_push 6 = .ok (.getfield 69, 3) := by decide +kernel
theorem dX8_push_9 : decode cX8_push 9 = .ok (.invokestatic 83, 3) := by decide +kernel
theorem dX8_push_12 : decode cX8_push 12 = .ok (.ifCond .ne 11, 3) := by decide +kernel
theorem dX8_push_15 : decode cX8_push 15 = .ok (.new 63, 3) := by decide +kernel
theorem dX8_push_18 : decode cX8_push 18 = .ok (.dup, 1) := by decide +kernel
theorem dX8_push_19 : decode cX8_push 19 = .ok (.invokespecial 65, 3) := by decide +kernel
theorem dX8_push_22 : decode cX8_push 22 = .ok (.athrow, 1) := by decide +kernel
theorem dX8_push_23 : decode cX8_push 23 = .ok (.aload_n 0, 1) := by decide +kernel
theorem dX8_push_24 : decode cX8_push 24 = .ok (.getfield 29, 3) := by decide +kernel
theorem dX8_push_27 : decode cX8_push 27 = .ok (.sipush 4096, 3) := by decide +kernel
theorem dX8_push_30 : decode cX8_push 30 = .ok (.if_icmp .lt 11, 3) := by decide +kernel
theorem dX8_push_33 : decode cX8_push 33 = .ok (.new 90, 3) := by decide +kernel
theorem dX8_push_36 : decode cX8_push 36 = .ok (.dup, 1) := by decide +kernel
theorem dX8_push_37 : decode cX8_push 37 = .ok (.invokespecial 92, 3) := by decide +kernel
theorem dX8_push_40 : decode cX8_push 40 = .ok (.athrow, 1) := by decide +kernel
theorem dX8_push_41 : decode cX8_push 41 = .ok (.aload_n 0, 1) := by decide +kernel
theorem dX8_push_42 : decode cX8_push 42 = .ok (.getfield 25, 3) := by decide +kernel
theorem dX8_push_45 : decode cX8_push 45 = .ok (.aload_n 0, 1) := by decide +kernel
theorem dX8_push_46 : decode cX8_push 46 = .ok (.getfield 29, 3) := by decide +kernel
theorem dX8_push_49 : decode cX8_push 49 = .ok (.iload_n 1, 1) := by decide +kernel
theorem dX8_push_50 : decode cX8_push 50 = .ok (.iastore, 1) := by decide +kernel
theorem dX8_push_51 : decode cX8_push 51 = .ok (.aload_n 0, 1) := by decide +kernel
theorem dX8_push_52 : decode cX8_push 52 = .ok (.dup, 1) := by decide +kernel
theorem dX8_push_53 : decode cX8_push 53 = .ok (.getfield 29, 3) := by decide +kernel
theorem dX8_push_56 : decode cX8_push 56 = .ok (.iconst 1, 1) := by decide +kernel
theorem dX8_push_57 : decode cX8_push 57 = .ok (.iadd, 1) := by decide +kernel
theorem dX8_push_58 : decode cX8_push 58 = .ok (.putfield 29, 3) := by decide +kernel
theorem dX8_push_61 : decode cX8_push 61 = .ok (.return_, 1) := by decide +kernel
theorem dX8_make_0 : decode cX8_make 0 = .ok (.aload_n 0, 1) := by decide +kernel
theorem dX8_make_1 : decode cX8_make 1 = .ok (.getfield 29, 3) := by decide +kernel
theorem dX8_make_4 : decode cX8_make 4 = .ok (.aload_n 0, 1) := by decide +kernel
theorem dX8_make_5 : decode cX8_make 5 = .ok (.getfield 12, 3) := by decide +kernel
theorem dX8_make_8 : decode cX8_make 8 = .ok (.getfield 66, 3) := by decide +kernel
theorem dX8_make_11 : decode cX8_make 11 = .ok (.irem, 1) := by decide +kernel
theorem dX8_make_12 : decode cX8_make 12 = .ok (.ifCond .eq 11, 3) := by decide +kernel
theorem dX8_make_15 : decode cX8_make 15 = .ok (.new 90, 3) := by decide +kernel
theorem dX8_make_18 : decode cX8_make 18 = .ok (.dup, 1) := by decide +kernel
theorem dX8_make_19 : decode cX8_make 19 = .ok (.invokespecial 92, 3) := by decide +kernel
theorem dX8_make_22 : decode cX8_make 22 = .ok (.athrow, 1) := by decide +kernel
theorem dX8_make_23 : decode cX8_make 23 = .ok (.aload_n 0, 1) := by decide +kernel
theorem dX8_make_24 : decode cX8_make 24 = .ok (.getfield 29, 3) := by decide +kernel
theorem dX8_make_27 : decode cX8_make 27 = .ok (.aload_n 0, 1) := by decide +kernel
theorem dX8_make_28 : decode cX8_make 28 = .ok (.getfield 12, 3) := by decide +kernel
theorem dX8_make_31 : decode cX8_make 31 = .ok (.getfield 66, 3) := by decide +kernel
theorem dX8_make_34 : decode cX8_make 34 = .ok (.idiv, 1) := by decide +kernel
theorem dX8_make_35 : decode cX8_make 35 = .ok (.istore_n 1, 1) := by decide +kernel
theorem dX8_make_36 : decode cX8_make 36 = .ok (.aload_n 0, 1) := by decide +kernel
theorem dX8_make_37 : decode cX8_make 37 = .ok (.getfield 36, 3) := by decide +kernel
theorem dX8_make_40 : decode cX8_make 40 = .ok (.aload_n 0, 1) := by decide +kernel
theorem dX8_make_41 : decode cX8_make 41 = .ok (.getfield 12, 3) := by decide +kernel
theorem dX8_make_44 : decode cX8_make 44 = .ok (.iload_n 1, 1) := by decide +kernel
theorem dX8_make_45 : decode cX8_make 45 = .ok (.invokevirtual 96, 3) := by decide +kernel
theorem dX8_make_48 : decode cX8_make 48 = .ok (.iconst 0, 1) := by decide +kernel
theorem dX8_make_49 : decode cX8_make 49 = .ok (.istore_n 2, 1) := by decide +kernel
theorem dX8_make_50 : decode cX8_make 50 = .ok (.iload_n 2, 1) := by decide +kernel
theorem dX8_make_51 : decode cX8_make 51 = .ok (.sipush 256, 3) := by decide +kernel
theorem dX8_make_54 : decode cX8_make 54 = .ok (.if_icmp .ge 68, 3) := by decide +kernel
theorem dX8_make_57 : decode cX8_make 57 = .ok (.iload_n 2, 1) := by decide +kernel
theorem dX8_make_58 : decode cX8_make 58 = .ok (.aload_n 0, 1) := by decide +kernel
theorem dX8_make_59 : decode cX8_make 59 = .ok (.getfield 12, 3) := by decide +kernel
theorem dX8_make_62 : decode cX8_make 62 = .ok (.getfield 72, 3) := by decide +kernel
theorem dX8_make_65 : decode cX8_make 65 = .ok (.imul, 1) := by decide +kernel
theorem dX8_make_66 : decode cX8_make 66 = .ok (.iload_n 1, 1) := by decide +kernel
theorem dX8_make_67 : decode cX8_make 67 = .ok (.if_icmp .ge 55, 3) := by decide +kernel
theorem dX8_make_70 : decode cX8_make 70 = .ok (.iload_n 2, 1) := by decide +kernel
theorem dX8_make_71 : decode cX8_make 71 = .ok (.aload_n 0, 1) := by decide +kernel
theorem dX8_make_72 : decode cX8_make 72 = .ok (.getfield 12, 3) := by decide +kernel
theorem dX8_make_75 : decode cX8_make 75 = .ok (.getfield 72, 3) := by decide +kernel
theorem dX8_make_78 : decode cX8_make 78 = .ok (.imul, 1) := by decide +kernel
theorem dX8_make_79 : decode cX8_make 79 = .ok (.istore_n 3, 1) := by decide +kernel
theorem dX8_make_80 : decode cX8_make 80 = .ok (.aload_n 0, 1) := by decide +kernel
theorem dX8_make_81 : decode cX8_make 81 = .ok (.getfield 36, 3) := by decide +kernel
theorem dX8_make_84 : decode cX8_make 84 = .ok (.aload_n 0, 1) := by decide +kernel
theorem dX8_make_85 : decode cX8_make 85 = .ok (.getfield 25, 3) := by decide +kernel
theorem dX8_make_88 : decode cX8_make 88 = .ok (.iload_n 3, 1) := by decide +kernel
theorem dX8_make_89 : decode cX8_make 89 = .ok (.aload_n 0, 1) := by decide +kernel
theorem dX8_make_90 : decode cX8_make 90 = .ok (.getfield 12, 3) := by decide +kernel
theorem dX8_make_93 : decode cX8_make 93 = .ok (.getfield 72, 3) := by decide +kernel
theorem dX8_make_96 : decode cX8_make 96 = .ok (.iload_n 1, 1) := by decide +kernel
theorem dX8_make_97 : decode cX8_make 97 = .ok (.iload_n 3, 1) := by decide +kernel
theorem dX8_make_98 : decode cX8_make 98 = .ok (.isub, 1) := by decide +kernel
theorem dX8_make_99 : decode cX8_make 99 = .ok (.invokestatic 99, 3) := by decide +kernel
theorem dX8_make_102 : decode cX8_make 102 = .ok (.aload_n 0, 1) := by decide +kernel
theorem dX8_make_103 : decode cX8_make 103 = .ok (.getfield 12, 3) := by decide +kernel
theorem dX8_make_106 : decode cX8_make 106 = .ok (.getfield 69, 3) := by decide +kernel
theorem dX8_make_109 : decode cX8_make 109 = .ok (.aload_n 0, 1) := by decide +kernel
theorem dX8_make_110 : decode cX8_make 110 = .ok (.getfield 21, 3) := by decide +kernel
theorem dX8_make_113 : decode cX8_make 113 = .ok (.invokevirtual 105, 3) := by decide +kernel
theorem dX8_make_116 : decode cX8_make 116 = .ok (.iinc 2 1, 3) := by decide +kernel
theorem dX8_make_119 : decode cX8_make 119 = .ok (.goto (-69), 3) := by decide +kernel
theorem dX8_make_122 : decode cX8_make 122 = .ok (.aload_n 0, 1) := by decide +kernel
theorem dX8_make_123 : decode cX8_make 123 = .ok (.getfield 36, 3) := by decide +kernel
theorem dX8_make_126 : decode cX8_make 126 = .ok (.getfield 109, 3) := by decide +kernel
theorem dX8_make_129 : decode cX8_make 129 = .ok (.invokevirtual 113, 3) := by decide +kernel
theorem dX8_make_132 : decode cX8_make 132 = .ok (.ireturn, 1) := by decide +kernel
theorem dX8_octet_0 : decode cX8_octet 0 = .ok (.iload_n 1, 1) := by decide +kernel
theorem dX8_octet_1 : decode cX8_octet 1 = .ok (.i2l, 1) := by decide +kernel
theorem dX8_octet_2 : decode cX8_octet 2 = .ok (.lconst 0, 1) := by decide +kernel
theorem dX8_octet_3 : decode cX8_octet 3 = .ok (.aload_n 0, 1) := by decide +kernel
theorem dX8_octet_4 : decode cX8_octet 4 = .ok (.getfield 36, 3) := by decide +kernel
theorem dX8_octet_7 : decode cX8_octet 7 = .ok (.getfield 109, 3) := by decide +kernel
theorem dX8_octet_10 : decode cX8_octet 10 = .ok (.invokevirtual 113, 3) := by decide +kernel
theorem dX8_octet_13 : decode cX8_octet 13 = .ok (.iconst 1, 1) := by decide +kernel
theorem dX8_octet_14 : decode cX8_octet 14 = .ok (.isub, 1) := by decide +kernel
theorem dX8_octet_15 : decode cX8_octet 15 = .ok (.i2l, 1) := by decide +kernel
theorem dX8_octet_16 : decode cX8_octet 16 = .ok (.invokestatic 49, 3) := by decide +kernel
theorem dX8_octet_19 : decode cX8_octet 19 = .ok (.ifCond .eq 22, 3) := by decide +kernel
theorem dX8_octet_22 : decode cX8_octet 22 = .ok (.aload_n 0, 1) := by decide +kernel
theorem dX8_octet_23 : decode cX8_octet 23 = .ok (.getfield 36, 3) := by decide +kernel
theorem dX8_octet_26 : decode cX8_octet 26 = .ok (.getfield 109, 3) := by decide +kernel
theorem dX8_octet_29 : decode cX8_octet 29 = .ok (.getfield 119, 3) := by decide +kernel
theorem dX8_octet_32 : decode cX8_octet 32 = .ok (.iload_n 1, 1) := by decide +kernel
theorem dX8_octet_33 : decode cX8_octet 33 = .ok (.baload, 1) := by decide +kernel
theorem dX8_octet_34 : decode cX8_octet 34 = .ok (.sipush 255, 3) := by decide +kernel
theorem dX8_octet_37 : decode cX8_octet 37 = .ok (.iand, 1) := by decide +kernel
theorem dX8_octet_38 : decode cX8_octet 38 = .ok (.goto 4, 3) := by decide +kernel
theorem dX8_octet_41 : decode cX8_octet 41 = .ok (.iconst (-1), 1) := by decide +kernel
theorem dX8_octet_42 : decode cX8_octet 42 = .ok (.ireturn, 1) := by decide +kernel
theorem dX8_way_0 : decode cX8_way 0 = .ok (.iload_n 1, 1) := by decide +kernel
theorem dX8_way_1 : decode cX8_way 1 = .ok (.i2l, 1) := by decide +kernel
theorem dX8_way_2 : decode cX8_way 2 = .ok (.lconst 0, 1) := by decide +kernel
theorem dX8_way_3 : decode cX8_way 3 = .ok (.aload_n 0, 1) := by decide +kernel
theorem dX8_way_4 : decode cX8_way 4 = .ok (.getfield 36, 3) := by decide +kernel
theorem dX8_way_7 : decode cX8_way 7 = .ok (.getfield 123, 3) := by decide +kernel
theorem dX8_way_10 : decode cX8_way 10 = .ok (.iconst 1, 1) := by decide +kernel
theorem dX8_way_11 : decode cX8_way 11 = .ok (.isub, 1) := by decide +kernel
theorem dX8_way_12 : decode cX8_way 12 = .ok (.i2l, 1) := by decide +kernel
theorem dX8_way_13 : decode cX8_way 13 = .ok (.invokestatic 49, 3) := by decide +kernel
theorem dX8_way_16 : decode cX8_way 16 = .ok (.ifCond .eq 34, 3) := by decide +kernel
theorem dX8_way_19 : decode cX8_way 19 = .ok (.iload_n 2, 1) := by decide +kernel
theorem dX8_way_20 : decode cX8_way 20 = .ok (.i2l, 1) := by decide +kernel
theorem dX8_way_21 : decode cX8_way 21 = .ok (.lconst 0, 1) := by decide +kernel
theorem dX8_way_22 : decode cX8_way 22 = .ok (.aload_n 0, 1) := by decide +kernel
theorem dX8_way_23 : decode cX8_way 23 = .ok (.getfield 36, 3) := by decide +kernel
theorem dX8_way_26 : decode cX8_way 26 = .ok (.getfield 126, 3) := by decide +kernel
theorem dX8_way_29 : decode cX8_way 29 = .ok (.iconst 1, 1) := by decide +kernel
theorem dX8_way_30 : decode cX8_way 30 = .ok (.isub, 1) := by decide +kernel
theorem dX8_way_31 : decode cX8_way 31 = .ok (.i2l, 1) := by decide +kernel
theorem dX8_way_32 : decode cX8_way 32 = .ok (.invokestatic 49, 3) := by decide +kernel
theorem dX8_way_35 : decode cX8_way 35 = .ok (.ifCond .eq 15, 3) := by decide +kernel
theorem dX8_way_38 : decode cX8_way 38 = .ok (.iload_n 3, 1) := by decide +kernel
theorem dX8_way_39 : decode cX8_way 39 = .ok (.i2l, 1) := by decide +kernel
theorem dX8_way_40 : decode cX8_way 40 = .ok (.lconst 0, 1) := by decide +kernel
theorem dX8_way_41 : decode cX8_way 41 = .ok (.ldc2_w 53, 3) := by decide +kernel
theorem dX8_way_44 : decode cX8_way 44 = .ok (.invokestatic 49, 3) := by decide +kernel
theorem dX8_way_47 : decode cX8_way 47 = .ok (.ifCond .ne 11, 3) := by decide +kernel
theorem dX8_way_50 : decode cX8_way 50 = .ok (.new 63, 3) := by decide +kernel
theorem dX8_way_53 : decode cX8_way 53 = .ok (.dup, 1) := by decide +kernel
theorem dX8_way_54 : decode cX8_way 54 = .ok (.invokespecial 65, 3) := by decide +kernel
theorem dX8_way_57 : decode cX8_way 57 = .ok (.athrow, 1) := by decide +kernel
theorem dX8_way_58 : decode cX8_way 58 = .ok (.aload_n 0, 1) := by decide +kernel
theorem dX8_way_59 : decode cX8_way 59 = .ok (.getfield 36, 3) := by decide +kernel
theorem dX8_way_62 : decode cX8_way 62 = .ok (.iload_n 1, 1) := by decide +kernel
theorem dX8_way_63 : decode cX8_way 63 = .ok (.iload_n 2, 1) := by decide +kernel
theorem dX8_way_64 : decode cX8_way 64 = .ok (.iload_n 3, 1) := by decide +kernel
theorem dX8_way_65 : decode cX8_way 65 = .ok (.invokevirtual 127, 3) := by decide +kernel
theorem dX8_way_68 : decode cX8_way 68 = .ok (.ireturn, 1) := by decide +kernel
theorem dX8_feed_0 : decode cX8_feed 0 = .ok (.iload_n 3, 1) := by decide +kernel
theorem dX8_feed_1 : decode cX8_feed 1 = .ok (.i2l, 1) := by decide +kernel
theorem dX8_feed_2 : decode cX8_feed 2 = .ok (.lconst 1, 1) := by decide +kernel
theorem dX8_feed_3 : decode cX8_feed 3 = .ok (.ldc2_w 47, 3) := by decide +kernel
theorem dX8_feed_6 : decode cX8_feed 6 = .ok (.invokestatic 49, 3) := by decide +kernel
theorem dX8_feed_9 : decode cX8_feed 9 = .ok (.ifCond .eq 19, 3) := by decide +kernel
theorem dX8_feed_12 : decode cX8_feed 12 = .ok (.aload_n 0, 1) := by decide +kernel
theorem dX8_feed_13 : decode cX8_feed 13 = .ok (.getfield 43, 3) := by decide +kernel
theorem dX8_feed_16 : decode cX8_feed 16 = .ok (.lload_n 1, 1) := by decide +kernel
theorem dX8_feed_17 : decode cX8_feed 17 = .ok (.iload_n 3, 1) := by decide +kernel
theorem dX8_feed_18 : decode cX8_feed 18 = .ok (.invokevirtual 131, 3) := by decide +kernel
theorem dX8_feed_21 : decode cX8_feed 21 = .ok (.ifCond .eq 7, 3) := by decide +kernel
theorem dX8_feed_24 : decode cX8_feed 24 = .ok (.iconst 1, 1) := by decide +kernel
theorem dX8_feed_25 : decode cX8_feed 25 = .ok (.goto 4, 3) := by decide +kernel
theorem dX8_feed_28 : decode cX8_feed 28 = .ok (.iconst 0, 1) := by decide +kernel
theorem dX8_feed_29 : decode cX8_feed 29 = .ok (.ireturn, 1) := by decide +kernel
theorem dX8_again_0 : decode cX8_again 0 = .ok (.aload_n 0, 1) := by decide +kernel
theorem dX8_again_1 : decode cX8_again 1 = .ok (.getfield 43, 3) := by decide +kernel
theorem dX8_again_4 : decode cX8_again 4 = .ok (.aload_n 0, 1) := by decide +kernel
theorem dX8_again_5 : decode cX8_again 5 = .ok (.getfield 36, 3) := by decide +kernel
theorem dX8_again_8 : decode cX8_again 8 = .ok (.getfield 109, 3) := by decide +kernel
theorem dX8_again_11 : decode cX8_again 11 = .ok (.invokevirtual 134, 3) := by decide +kernel
theorem dX8_again_14 : decode cX8_again 14 = .ok (.aload_n 0, 1) := by decide +kernel
theorem dX8_again_15 : decode cX8_again 15 = .ok (.getfield 43, 3) := by decide +kernel
theorem dX8_again_18 : decode cX8_again 18 = .ok (.getfield 138, 3) := by decide +kernel
theorem dX8_again_21 : decode cX8_again 21 = .ok (.ireturn, 1) := by decide +kernel
theorem dX8_read_0 : decode cX8_read 0 = .ok (.aload_n 0, 1) := by decide +kernel
theorem dX8_read_1 : decode cX8_read 1 = .ok (.getfield 43, 3) := by decide +kernel
theorem dX8_read_4 : decode cX8_read 4 = .ok (.invokevirtual 140, 3) := by decide +kernel
theorem dX8_read_7 : decode cX8_read 7 = .ok (.ifCond .ne 11, 3) := by decide +kernel
theorem dX8_read_10 : decode cX8_read 10 = .ok (.new 63, 3) := by decide +kernel
theorem dX8_read_13 : decode cX8_read 13 = .ok (.dup, 1) := by decide +kernel
theorem dX8_read_14 : decode cX8_read 14 = .ok (.invokespecial 65, 3) := by decide +kernel
theorem dX8_read_17 : decode cX8_read 17 = .ok (.athrow, 1) := by decide +kernel
theorem dX8_read_18 : decode cX8_read 18 = .ok (.aload_n 0, 1) := by decide +kernel
theorem dX8_read_19 : decode cX8_read 19 = .ok (.getfield 12, 3) := by decide +kernel
theorem dX8_read_22 : decode cX8_read 22 = .ok (.aload_n 0, 1) := by decide +kernel
theorem dX8_read_23 : decode cX8_read 23 = .ok (.getfield 43, 3) := by decide +kernel
theorem dX8_read_26 : decode cX8_read 26 = .ok (.getfield 144, 3) := by decide +kernel
theorem dX8_read_29 : decode cX8_read 29 = .ok (.invokevirtual 147, 3) := by decide +kernel
theorem dX8_read_32 : decode cX8_read 32 = .ok (.aload_n 0, 1) := by decide +kernel
theorem dX8_read_33 : decode cX8_read 33 = .ok (.aload_n 0, 1) := by decide +kernel
theorem dX8_read_34 : decode cX8_read 34 = .ok (.getfield 43, 3) := by decide +kernel
theorem dX8_read_37 : decode cX8_read 37 = .ok (.getfield 151, 3) := by decide +kernel
theorem dX8_read_40 : decode cX8_read 40 = .ok (.aload_n 0, 1) := by decide +kernel
theorem dX8_read_41 : decode cX8_read 41 = .ok (.getfield 12, 3) := by decide +kernel
theorem dX8_read_44 : decode cX8_read 44 = .ok (.getfield 66, 3) := by decide +kernel
theorem dX8_read_47 : decode cX8_read 47 = .ok (.imul, 1) := by decide +kernel
theorem dX8_read_48 : decode cX8_read 48 = .ok (.putfield 29, 3) := by decide +kernel
theorem dX8_read_51 : decode cX8_read 51 = .ok (.aload_n 0, 1) := by decide +kernel
theorem dX8_read_52 : decode cX8_read 52 = .ok (.getfield 43, 3) := by decide +kernel
theorem dX8_read_55 : decode cX8_read 55 = .ok (.getfield 154, 3) := by decide +kernel
theorem dX8_read_58 : decode cX8_read 58 = .ok (.iconst 0, 1) := by decide +kernel
theorem dX8_read_59 : decode cX8_read 59 = .ok (.aload_n 0, 1) := by decide +kernel
theorem dX8_read_60 : decode cX8_read 60 = .ok (.getfield 25, 3) := by decide +kernel
theorem dX8_read_63 : decode cX8_read 63 = .ok (.iconst 0, 1) := by decide +kernel
theorem dX8_read_64 : decode cX8_read 64 = .ok (.aload_n 0, 1) := by decide +kernel
theorem dX8_read_65 : decode cX8_read 65 = .ok (.getfield 29, 3) := by decide +kernel
theorem dX8_read_68 : decode cX8_read 68 = .ok (.invokestatic 155, 3) := by decide +kernel
theorem dX8_read_71 : decode cX8_read 71 = .ok (.aload_n 0, 1) := by decide +kernel
theorem dX8_read_72 : decode cX8_read 72 = .ok (.getfield 29, 3) := by decide +kernel
theorem dX8_read_75 : decode cX8_read 75 = .ok (.ireturn, 1) := by decide +kernel
theorem dX8_fault_0 : decode cX8_fault 0 = .ok (.aload_n 0, 1) := by decide +kernel
theorem dX8_fault_1 : decode cX8_fault 1 = .ok (.getfield 43, 3) := by decide +kernel
theorem dX8_fault_4 : decode cX8_fault 4 = .ok (.getfield 161, 3) := by decide +kernel
theorem dX8_fault_7 : decode cX8_fault 7 = .ok (.ireturn, 1) := by decide +kernel
theorem dX8_place_0 : decode cX8_place 0 = .ok (.aload_n 0, 1) := by decide +kernel
theorem dX8_place_1 : decode cX8_place 1 = .ok (.getfield 43, 3) := by decide +kernel
theorem dX8_place_4 : decode cX8_place 4 = .ok (.getfield 164, 3) := by decide +kernel
theorem dX8_place_7 : decode cX8_place 7 = .ok (.ireturn, 1) := by decide +kernel
theorem dX8_sample_0 : decode cX8_sample 0 = .ok (.iload_n 1, 1) := by decide +kernel
theorem dX8_sample_1 : decode cX8_sample 1 = .ok (.i2l, 1) := by decide +kernel
theorem dX8_sample_2 : decode cX8_sample 2 = .ok (.lconst 0, 1) := by decide +kernel
theorem dX8_sample_3 : decode cX8_sample 3 = .ok (.aload_n 0, 1) := by decide +kernel
theorem dX8_sample_4 : decode cX8_sample 4 = .ok (.getfield 29, 3) := by decide +kernel
theorem dX8_sample_7 : decode cX8_sample 7 = .ok (.iconst 1, 1) := by decide +kernel
theorem dX8_sample_8 : decode cX8_sample 8 = .ok (.isub, 1) := by decide +kernel
theorem dX8_sample_9 : decode cX8_sample 9 = .ok (.i2l, 1) := by decide +kernel
theorem dX8_sample_10 : decode cX8_sample 10 = .ok (.invokestatic 49, 3) := by decide +kernel
theorem dX8_sample_13 : decode cX8_sample 13 = .ok (.ifCond .ne 11, 3) := by decide +kernel
theorem dX8_sample_16 : decode cX8_sample 16 = .ok (.new 63, 3) := by decide +kernel
theorem dX8_sample_19 : decode cX8_sample 19 = .ok (.dup, 1) := by decide +kernel
theorem dX8_sample_20 : decode cX8_sample 20 = .ok (.invokespecial 65, 3) := by decide +kernel
theorem dX8_sample_23 : decode cX8_sample 23 = .ok (.athrow, 1) := by decide +kernel
theorem dX8_sample_24 : decode cX8_sample 24 = .ok (.aload_n 0, 1) := by decide +kernel
theorem dX8_sample_25 : decode cX8_sample 25 = .ok (.getfield 25, 3) := by decide +kernel
theorem dX8_sample_28 : decode cX8_sample 28 = .ok (.iload_n 1, 1) := by decide +kernel
theorem dX8_sample_29 : decode cX8_sample 29 = .ok (.iaload, 1) := by decide +kernel
theorem dX8_sample_30 : decode cX8_sample 30 = .ok (.ireturn, 1) := by decide +kernel
theorem dX8_count_0 : decode cX8_count 0 = .ok (.iload_n 1, 1) := by decide +kernel
theorem dX8_count_1 : decode cX8_count 1 = .ok (.tableswitch 123 0 8 #[51, 56, 64, 72, 80, 88, 99, 107, 115], 51) := by decide +kernel
theorem dX8_count_52 : decode cX8_count 52 = .ok (.aload_n 0, 1) := by decide +kernel
theorem dX8_count_53 : decode cX8_count 53 = .ok (.getfield 29, 3) := by decide +kernel
theorem dX8_count_56 : decode cX8_count 56 = .ok (.ireturn, 1) := by decide +kernel
theorem dX8_count_57 : decode cX8_count 57 = .ok (.aload_n 0, 1) := by decide +kernel
theorem dX8_count_58 : decode cX8_count 58 = .ok (.getfield 12, 3) := by decide +kernel
theorem dX8_count_61 : decode cX8_count 61 = .ok (.getfield 66, 3) := by decide +kernel
theorem dX8_count_64 : decode cX8_count 64 = .ok (.ireturn, 1) := by decide +kernel
theorem dX8_count_65 : decode cX8_count 65 = .ok (.aload_n 0, 1) := by decide +kernel
theorem dX8_count_66 : decode cX8_count 66 = .ok (.getfield 12, 3) := by decide +kernel
theorem dX8_count_69 : decode cX8_count 69 = .ok (.getfield 69, 3) := by decide +kernel
theorem dX8_count_72 : decode cX8_count 72 = .ok (.ireturn, 1) := by decide +kernel
theorem dX8_count_73 : decode cX8_count 73 = .ok (.aload_n 0, 1) := by decide +kernel
theorem dX8_count_74 : decode cX8_count 74 = .ok (.getfield 12, 3) := by decide +kernel
theorem dX8_count_77 : decode cX8_count 77 = .ok (.getfield 72, 3) := by decide +kernel
theorem dX8_count_80 : decode cX8_count 80 = .ok (.ireturn, 1) := by decide +kernel
theorem dX8_count_81 : decode cX8_count 81 = .ok (.aload_n 0, 1) := by decide +kernel
theorem dX8_count_82 : decode cX8_count 82 = .ok (.getfield 12, 3) := by decide +kernel
theorem dX8_count_85 : decode cX8_count 85 = .ok (.getfield 75, 3) := by decide +kernel
theorem dX8_count_88 : decode cX8_count 88 = .ok (.ireturn, 1) := by decide +kernel
theorem dX8_count_89 : decode cX8_count 89 = .ok (.aload_n 0, 1) := by decide +kernel
theorem dX8_count_90 : decode cX8_count 90 = .ok (.getfield 36, 3) := by decide +kernel
theorem dX8_count_93 : decode cX8_count 93 = .ok (.getfield 109, 3) := by decide +kernel
theorem dX8_count_96 : decode cX8_count 96 = .ok (.invokevirtual 113, 3) := by decide +kernel
theorem dX8_count_99 : decode cX8_count 99 = .ok (.ireturn, 1) := by decide +kernel
theorem dX8_count_100 : decode cX8_count 100 = .ok (.aload_n 0, 1) := by decide +kernel
theorem dX8_count_101 : decode cX8_count 101 = .ok (.getfield 36, 3) := by decide +kernel
theorem dX8_count_104 : decode cX8_count 104 = .ok (.getfield 123, 3) := by decide +kernel
theorem dX8_count_107 : decode cX8_count 107 = .ok (.ireturn, 1) := by decide +kernel
theorem dX8_count_108 : decode cX8_count 108 = .ok (.aload_n 0, 1) := by decide +kernel
theorem dX8_count_109 : decode cX8_count 109 = .ok (.getfield 43, 3) := by decide +kernel
theorem dX8_count_112 : decode cX8_count 112 = .ok (.getfield 138, 3) := by decide +kernel
theorem dX8_count_115 : decode cX8_count 115 = .ok (.ireturn, 1) := by decide +kernel
theorem dX8_count_116 : decode cX8_count 116 = .ok (.aload_n 0, 1) := by decide +kernel
theorem dX8_count_117 : decode cX8_count 117 = .ok (.getfield 21, 3) := by decide +kernel
theorem dX8_count_120 : decode cX8_count 120 = .ok (.getfield 87, 3) := by decide +kernel
theorem dX8_count_123 : decode cX8_count 123 = .ok (.ireturn, 1) := by decide +kernel
theorem dX8_count_124 : decode cX8_count 124 = .ok (.iconst (-1), 1) := by decide +kernel
theorem dX8_count_125 : decode cX8_count 125 = .ok (.ireturn, 1) := by decide +kernel
theorem dX8_within_0 : decode cX8_within 0 = .ok (.lload_n 0, 1) := by decide +kernel
theorem dX8_within_1 : decode cX8_within 1 = .ok (.lload_n 2, 1) := by decide +kernel
theorem dX8_within_2 : decode cX8_within 2 = .ok (.lcmp, 1) := by decide +kernel
theorem dX8_within_3 : decode cX8_within 3 = .ok (.ifCond .lt 14, 3) := by decide +kernel
theorem dX8_within_6 : decode cX8_within 6 = .ok (.lload_n 0, 1) := by decide +kernel
theorem dX8_within_7 : decode cX8_within 7 = .ok (.lload 4, 2) := by decide +kernel
theorem dX8_within_9 : decode cX8_within 9 = .ok (.lcmp, 1) := by decide +kernel
theorem dX8_within_10 : decode cX8_within 10 = .ok (.ifCond .gt 7, 3) := by decide +kernel
theorem dX8_within_13 : decode cX8_within 13 = .ok (.iconst 1, 1) := by decide +kernel
theorem dX8_within_14 : decode cX8_within 14 = .ok (.goto 4, 3) := by decide +kernel
theorem dX8_within_17 : decode cX8_within 17 = .ok (.iconst 0, 1) := by decide +kernel
theorem dX8_within_18 : decode cX8_within 18 = .ok (.ireturn, 1) := by decide +kernel
theorem dX8_fits_0 : decode cX8_fits 0 = .ok (.lconst 1, 1) := by decide +kernel
theorem dX8_fits_1 : decode cX8_fits 1 = .ok (.iload_n 2, 1) := by decide +kernel
theorem dX8_fits_2 : decode cX8_fits 2 = .ok (.iconst 1, 1) := by decide +kernel
theorem dX8_fits_3 : decode cX8_fits 3 = .ok (.isub, 1) := by decide +kernel
theorem dX8_fits_4 : decode cX8_fits 4 = .ok (.lshl, 1) := by decide +kernel
theorem dX8_fits_5 : decode cX8_fits 5 = .ok (.lstore_n 3, 1) := by decide +kernel
theorem dX8_fits_6 : decode cX8_fits 6 = .ok (.lload_n 0, 1) := by decide +kernel
theorem dX8_fits_7 : decode cX8_fits 7 = .ok (.lload_n 3, 1) := by decide +kernel
theorem dX8_fits_8 : decode cX8_fits 8 = .ok (.lneg, 1) := by decide +kernel
theorem dX8_fits_9 : decode cX8_fits 9 = .ok (.lcmp, 1) := by decide +kernel
theorem dX8_fits_10 : decode cX8_fits 10 = .ok (.ifCond .lt 13, 3) := by decide +kernel
theorem dX8_fits_13 : decode cX8_fits 13 = .ok (.lload_n 0, 1) := by decide +kernel
theorem dX8_fits_14 : decode cX8_fits 14 = .ok (.lload_n 3, 1) := by decide +kernel
theorem dX8_fits_15 : decode cX8_fits 15 = .ok (.lcmp, 1) := by decide +kernel
theorem dX8_fits_16 : decode cX8_fits 16 = .ok (.ifCond .ge 7, 3) := by decide +kernel
theorem dX8_fits_19 : decode cX8_fits 19 = .ok (.iconst 1, 1) := by decide +kernel
theorem dX8_fits_20 : decode cX8_fits 20 = .ok (.goto 4, 3) := by decide +kernel
theorem dX8_fits_23 : decode cX8_fits 23 = .ok (.iconst 0, 1) := by decide +kernel
theorem dX8_fits_24 : decode cX8_fits 24 = .ok (.ireturn, 1) := by decide +kernel
theorem dX8_isSide_0 : decode cX8_isSide 0 = .ok (.iload_n 0, 1) := by decide +kernel
theorem dX8_isSide_1 : decode cX8_isSide 1 = .ok (.bipush 9, 2) := by decide +kernel
theorem dX8_isSide_3 : decode cX8_isSide 3 = .ok (.if_icmp .ne 13, 3) := by decide +kernel
theorem dX8_isSide_6 : decode cX8_isSide 6 = .ok (.iload_n 1, 1) := by decide +kernel
theorem dX8_isSide_7 : decode cX8_isSide 7 = .ok (.ifCond .ne 7, 3) := by decide +kernel
theorem dX8_isSide_10 : decode cX8_isSide 10 = .ok (.iconst 1, 1) := by decide +kernel
theorem dX8_isSide_11 : decode cX8_isSide 11 = .ok (.goto 4, 3) := by decide +kernel
theorem dX8_isSide_14 : decode cX8_isSide 14 = .ok (.iconst 0, 1) := by decide +kernel
theorem dX8_isSide_15 : decode cX8_isSide 15 = .ok (.ireturn, 1) := by decide +kernel
theorem dX8_isSide_16 : decode cX8_isSide 16 = .ok (.iload_n 0, 1) := by decide +kernel
theorem dX8_isSide_17 : decode cX8_isSide 17 = .ok (.bipush 8, 2) := by decide +kernel
theorem dX8_isSide_19 : decode cX8_isSide 19 = .ok (.if_icmp .eq 9, 3) := by decide +kernel
theorem dX8_isSide_22 : decode cX8_isSide 22 = .ok (.iload_n 0, 1) := by decide +kernel
theorem dX8_isSide_23 : decode cX8_isSide 23 = .ok (.bipush 10, 2) := by decide +kernel
theorem dX8_isSide_25 : decode cX8_isSide 25 = .ok (.if_icmp .ne 12, 3) := by decide +kernel
theorem dX8_isSide_28 : decode cX8_isSide 28 = .ok (.iload_n 1, 1) := by decide +kernel
theorem dX8_isSide_29 : decode cX8_isSide 29 = .ok (.iconst 1, 1) := by decide +kernel
theorem dX8_isSide_30 : decode cX8_isSide 30 = .ok (.if_icmp .ne 7, 3) := by decide +kernel
theorem dX8_isSide_33 : decode cX8_isSide 33 = .ok (.iconst 1, 1) := by decide +kernel
theorem dX8_isSide_34 : decode cX8_isSide 34 = .ok (.goto 4, 3) := by decide +kernel
theorem dX8_isSide_37 : decode cX8_isSide 37 = .ok (.iconst 0, 1) := by decide +kernel
theorem dX8_isSide_38 : decode cX8_isSide 38 = .ok (.ireturn, 1) := by decide +kernel
theorem dX8_sumOf_0 : decode cX8_sumOf 0 = .ok (.iconst 1, 1) := by decide +kernel
theorem dX8_sumOf_1 : decode cX8_sumOf 1 = .ok (.iload_n 3, 1) := by decide +kernel
theorem dX8_sumOf_2 : decode cX8_sumOf 2 = .ok (.iconst 1, 1) := by decide +kernel
theorem dX8_sumOf_3 : decode cX8_sumOf 3 = .ok (.isub, 1) := by decide +kernel
theorem dX8_sumOf_4 : decode cX8_sumOf 4 = .ok (.ishl, 1) := by decide +kernel
theorem dX8_sumOf_5 : decode cX8_sumOf 5 = .ok (.istore 5, 2) := by decide +kernel
theorem dX8_sumOf_7 : decode cX8_sumOf 7 = .ok (.iconst 1, 1) := by decide +kernel
theorem dX8_sumOf_8 : decode cX8_sumOf 8 = .ok (.iload_n 3, 1) := by decide +kernel
theorem dX8_sumOf_9 : decode cX8_sumOf 9 = .ok (.ishl, 1) := by decide +kernel
theorem dX8_sumOf_10 : decode cX8_sumOf 10 = .ok (.iconst 1, 1) := by decide +kernel
theorem dX8_sumOf_11 : decode cX8_sumOf 11 = .ok (.isub, 1) := by decide +kernel
theorem dX8_sumOf_12 : decode cX8_sumOf 12 = .ok (.istore 6, 2) := by decide +kernel
theorem dX8_sumOf_14 : decode cX8_sumOf 14 = .ok (.iconst 0, 1) := by decide +kernel
theorem dX8_sumOf_15 : decode cX8_sumOf 15 = .ok (.istore 7, 2) := by decide +kernel
theorem dX8_sumOf_17 : decode cX8_sumOf 17 = .ok (.iload_n 1, 1) := by decide +kernel
theorem dX8_sumOf_18 : decode cX8_sumOf 18 = .ok (.istore 8, 2) := by decide +kernel
theorem dX8_sumOf_20 : decode cX8_sumOf 20 = .ok (.iload 8, 2) := by decide +kernel
theorem dX8_sumOf_22 : decode cX8_sumOf 22 = .ok (.iload_n 2, 1) := by decide +kernel
theorem dX8_sumOf_23 : decode cX8_sumOf 23 = .ok (.if_icmp .ge 79, 3) := by decide +kernel
theorem dX8_sumOf_26 : decode cX8_sumOf 26 = .ok (.iload 7, 2) := by decide +kernel
theorem dX8_sumOf_28 : decode cX8_sumOf 28 = .ok (.aload_n 0, 1) := by decide +kernel
theorem dX8_sumOf_29 : decode cX8_sumOf 29 = .ok (.iload 8, 2) := by decide +kernel
theorem dX8_sumOf_31 : decode cX8_sumOf 31 = .ok (.baload, 1) := by decide +kernel
theorem dX8_sumOf_32 : decode cX8_sumOf 32 = .ok (.sipush 255, 3) := by decide +kernel
theorem dX8_sumOf_35 : decode cX8_sumOf 35 = .ok (.iand, 1) := by decide +kernel
theorem dX8_sumOf_36 : decode cX8_sumOf 36 = .ok (.iload_n 3, 1) := by decide +kernel
theorem dX8_sumOf_37 : decode cX8_sumOf 37 = .ok (.bipush 8, 2) := by decide +kernel
theorem dX8_sumOf_39 : decode cX8_sumOf 39 = .ok (.isub, 1) := by decide +kernel
theorem dX8_sumOf_40 : decode cX8_sumOf 40 = .ok (.ishl, 1) := by decide +kernel
theorem dX8_sumOf_41 : decode cX8_sumOf 41 = .ok (.ixor, 1) := by decide +kernel
theorem dX8_sumOf_42 : decode cX8_sumOf 42 = .ok (.istore 7, 2) := by decide +kernel
theorem dX8_sumOf_44 : decode cX8_sumOf 44 = .ok (.iconst 0, 1) := by decide +kernel
theorem dX8_sumOf_45 : decode cX8_sumOf 45 = .ok (.istore 9, 2) := by decide +kernel
theorem dX8_sumOf_47 : decode cX8_sumOf 47 = .ok (.iload 9, 2) := by decide +kernel
theorem dX8_sumOf_49 : decode cX8_sumOf 49 = .ok (.bipush 8, 2) := by decide +kernel
theorem dX8_sumOf_51 : decode cX8_sumOf 51 = .ok (.if_icmp .ge 45, 3) := by decide +kernel
theorem dX8_sumOf_54 : decode cX8_sumOf 54 = .ok (.iload 7, 2) := by decide +kernel
theorem dX8_sumOf_56 : decode cX8_sumOf 56 = .ok (.iload 5, 2) := by decide +kernel
theorem dX8_sumOf_58 : decode cX8_sumOf 58 = .ok (.iand, 1) := by decide +kernel
theorem dX8_sumOf_59 : decode cX8_sumOf 59 = .ok (.ifCond .eq 7, 3) := by decide +kernel
theorem dX8_sumOf_62 : decode cX8_sumOf 62 = .ok (.iconst 1, 1) := by decide +kernel
theorem dX8_sumOf_63 : decode cX8_sumOf 63 = .ok (.goto 4, 3) := by decide +kernel
theorem dX8_sumOf_66 : decode cX8_sumOf 66 = .ok (.iconst 0, 1) := by decide +kernel
theorem dX8_sumOf_67 : decode cX8_sumOf 67 = .ok (.istore 10, 2) := by decide +kernel
theorem dX8_sumOf_69 : decode cX8_sumOf 69 = .ok (.iload 7, 2) := by decide +kernel
theorem dX8_sumOf_71 : decode cX8_sumOf 71 = .ok (.iconst 1, 1) := by decide +kernel
theorem dX8_sumOf_72 : decode cX8_sumOf 72 = .ok (.ishl, 1) := by decide +kernel
theorem dX8_sumOf_73 : decode cX8_sumOf 73 = .ok (.iload 6, 2) := by decide +kernel
theorem dX8_sumOf_75 : decode cX8_sumOf 75 = .ok (.iand, 1) := by decide +kernel
theorem dX8_sumOf_76 : decode cX8_sumOf 76 = .ok (.istore 7, 2) := by decide +kernel
theorem dX8_sumOf_78 : decode cX8_sumOf 78 = .ok (.iload 10, 2) := by decide +kernel
theorem dX8_sumOf_80 : decode cX8_sumOf 80 = .ok (.ifCond .eq 10, 3) := by decide +kernel
theorem dX8_sumOf_83 : decode cX8_sumOf 83 = .ok (.iload 7, 2) := by decide +kernel
theorem dX8_sumOf_85 : decode cX8_sumOf 85 = .ok (.iload 4, 2) := by decide +kernel
theorem dX8_sumOf_87 : decode cX8_sumOf 87 = .ok (.ixor, 1) := by decide +kernel
theorem dX8_sumOf_88 : decode cX8_sumOf 88 = .ok (.istore 7, 2) := by decide +kernel
theorem dX8_sumOf_90 : decode cX8_sumOf 90 = .ok (.iinc 9 1, 3) := by decide +kernel
theorem dX8_sumOf_93 : decode cX8_sumOf 93 = .ok (.goto (-46), 3) := by decide +kernel
theorem dX8_sumOf_96 : decode cX8_sumOf 96 = .ok (.iinc 8 1, 3) := by decide +kernel
theorem dX8_sumOf_99 : decode cX8_sumOf 99 = .ok (.goto (-79), 3) := by decide +kernel
theorem dX8_sumOf_102 : decode cX8_sumOf 102 = .ok (.iload 7, 2) := by decide +kernel
theorem dX8_sumOf_104 : decode cX8_sumOf 104 = .ok (.ireturn, 1) := by decide +kernel
theorem dX9_init_0 : decode cX9_init 0 = .ok (.aload_n 0, 1) := by decide +kernel
theorem dX9_init_1 : decode cX9_init 1 = .ok (.invokespecial 1, 3) := by decide +kernel
theorem dX9_init_4 : decode cX9_init 4 = .ok (.aload_n 0, 1) := by decide +kernel
theorem dX9_init_5 : decode cX9_init 5 = .ok (.iconst 1, 1) := by decide +kernel
theorem dX9_init_6 : decode cX9_init 6 = .ok (.putfield 7, 3) := by decide +kernel
theorem dX9_init_9 : decode cX9_init 9 = .ok (.aload_n 0, 1) := by decide +kernel
theorem dX9_init_10 : decode cX9_init 10 = .ok (.bipush 16, 2) := by decide +kernel
theorem dX9_init_12 : decode cX9_init 12 = .ok (.putfield 13, 3) := by decide +kernel
theorem dX9_init_15 : decode cX9_init 15 = .ok (.aload_n 0, 1) := by decide +kernel
theorem dX9_init_16 : decode cX9_init 16 = .ok (.bipush 64, 2) := by decide +kernel
theorem dX9_init_18 : decode cX9_init 18 = .ok (.putfield 16, 3) := by decide +kernel
theorem dX9_init_21 : decode cX9_init 21 = .ok (.aload_n 0, 1) := by decide +kernel
theorem dX9_init_22 : decode cX9_init 22 = .ok (.ldc 19, 2) := by decide +kernel
theorem dX9_init_24 : decode cX9_init 24 = .ok (.putfield 20, 3) := by decide +kernel
theorem dX9_init_27 : decode cX9_init 27 = .ok (.aload_n 0, 1) := by decide +kernel
theorem dX9_init_28 : decode cX9_init 28 = .ok (.bipush 8, 2) := by decide +kernel
theorem dX9_init_30 : decode cX9_init 30 = .ok (.newarray .int, 2) := by decide +kernel
theorem dX9_init_32 : decode cX9_init 32 = .ok (.putfield 23, 3) := by decide +kernel
theorem dX9_init_35 : decode cX9_init 35 = .ok (.aload_n 0, 1) := by decide +kernel
theorem dX9_init_36 : decode cX9_init 36 = .ok (.sipush 4096, 3) := by decide +kernel
theorem dX9_init_39 : decode cX9_init 39 = .ok (.newarray .int, 2) := by decide +kernel
theorem dX9_init_41 : decode cX9_init 41 = .ok (.putfield 27, 3) := by decide +kernel
theorem dX9_init_44 : decode cX9_init 44 = .ok (.aload_n 0, 1) := by decide +kernel
theorem dX9_init_45 : decode cX9_init 45 = .ok (.sipush 2500, 3) := by decide +kernel
theorem dX9_init_48 : decode cX9_init 48 = .ok (.newarray .long, 2) := by decide +kernel
theorem dX9_init_50 : decode cX9_init 50 = .ok (.putfield 30, 3) := by decide +kernel
theorem dX9_init_53 : decode cX9_init 53 = .ok (.aload_n 0, 1) := by decide +kernel
theorem dX9_init_54 : decode cX9_init 54 = .ok (.sipush 264, 3) := by decide +kernel
theorem dX9_init_57 : decode cX9_init 57 = .ok (.newarray .int, 2) := by decide +kernel
theorem dX9_init_59 : decode cX9_init 59 = .ok (.putfield 34, 3) := by decide +kernel
theorem dX9_init_62 : decode cX9_init 62 = .ok (.aload_n 0, 1) := by decide +kernel
theorem dX9_init_63 : decode cX9_init 63 = .ok (.sipush 264, 3) := by decide +kernel
theorem dX9_init_66 : decode cX9_init 66 = .ok (.newarray .int, 2) := by decide +kernel
theorem dX9_init_68 : decode cX9_init 68 = .ok (.putfield 37, 3) := by decide +kernel
theorem dX9_init_71 : decode cX9_init 71 = .ok (.aload_n 0, 1) := by decide +kernel
theorem dX9_init_72 : decode cX9_init 72 = .ok (.sipush 264, 3) := by decide +kernel
theorem dX9_init_75 : decode cX9_init 75 = .ok (.newarray .int, 2) := by decide +kernel
theorem dX9_init_77 : decode cX9_init 77 = .ok (.putfield 40, 3) := by decide +kernel
theorem dX9_init_80 : decode cX9_init 80 = .ok (.aload_n 0, 1) := by decide +kernel
theorem dX9_init_81 : decode cX9_init 81 = .ok (.sipush 264, 3) := by decide +kernel
theorem dX9_init_84 : decode cX9_init 84 = .ok (.newarray .int, 2) := by decide +kernel
theorem dX9_init_86 : decode cX9_init 86 = .ok (.putfield 43, 3) := by decide +kernel
theorem dX9_init_89 : decode cX9_init 89 = .ok (.aload_n 0, 1) := by decide +kernel
theorem dX9_init_90 : decode cX9_init 90 = .ok (.sipush 256, 3) := by decide +kernel
theorem dX9_init_93 : decode cX9_init 93 = .ok (.newarray .int, 2) := by decide +kernel
theorem dX9_init_95 : decode cX9_init 95 = .ok (.putfield 46, 3) := by decide +kernel
theorem dX9_init_98 : decode cX9_init 98 = .ok (.aload_n 0, 1) := by decide +kernel
theorem dX9_init_99 : decode cX9_init 99 = .ok (.sipush 2500, 3) := by decide +kernel
theorem dX9_init_102 : decode cX9_init 102 = .ok (.newarray .long, 2) := by decide +kernel
theorem dX9_init_104 : decode cX9_init 104 = .ok (.putfield 49, 3) := by decide +kernel
theorem dX9_init_107 : decode cX9_init 107 = .ok (.aload_n 0, 1) := by decide +kernel
theorem dX9_init_108 : decode cX9_init 108 = .ok (.iconst (-1), 1) := by decide +kernel
theorem dX9_init_109 : decode cX9_init 109 = .ok (.putfield 52, 3) := by decide +kernel
theorem dX9_init_112 : decode cX9_init 112 = .ok (.aload_n 0, 1) := by decide +kernel
theorem dX9_init_113 : decode cX9_init 113 = .ok (.sipush 256, 3) := by decide +kernel
theorem dX9_init_116 : decode cX9_init 116 = .ok (.newarray .long, 2) := by decide +kernel
theorem dX9_init_118 : decode cX9_init 118 = .ok (.putfield 55, 3) := by decide +kernel
theorem dX9_init_121 : decode cX9_init 121 = .ok (.aload_n 0, 1) := by decide +kernel
theorem dX9_init_122 : decode cX9_init 122 = .ok (.sipush 256, 3) := by decide +kernel
theorem dX9_init_125 : decode cX9_init 125 = .ok (.newarray .long, 2) := by decide +kernel
theorem dX9_init_127 : decode cX9_init 127 = .ok (.putfield 58, 3) := by decide +kernel
theorem dX9_init_130 : decode cX9_init 130 = .ok (.aload_n 0, 1) := by decide +kernel
theorem dX9_init_131 : decode cX9_init 131 = .ok (.sipush 4096, 3) := by decide +kernel
theorem dX9_init_134 : decode cX9_init 134 = .ok (.newarray .int, 2) := by decide +kernel
theorem dX9_init_136 : decode cX9_init 136 = .ok (.putfield 61, 3) := by decide +kernel
theorem dX9_init_139 : decode cX9_init 139 = .ok (.aload_n 0, 1) := by decide +kernel
theorem dX9_init_140 : decode cX9_init 140 = .ok (.sipush 2048, 3) := by decide +kernel
theorem dX9_init_143 : decode cX9_init 143 = .ok (.newarray .long, 2) := by decide +kernel
theorem dX9_init_145 : decode cX9_init 145 = .ok (.putfield 64, 3) := by decide +kernel
theorem dX9_init_148 : decode cX9_init 148 = .ok (.aload_n 0, 1) := by decide +kernel
theorem dX9_init_149 : decode cX9_init 149 = .ok (.bipush 32, 2) := by decide +kernel
theorem dX9_init_151 : decode cX9_init 151 = .ok (.newarray .int, 2) := by decide +kernel
theorem dX9_init_153 : decode cX9_init 153 = .ok (.putfield 67, 3) := by decide +kernel
theorem dX9_init_156 : decode cX9_init 156 = .ok (.return_, 1) := by decide +kernel
theorem dX9_thrown_0 : decode cX9_thrown 0 = .ok (.aload_n 0, 1) := by decide +kernel
theorem dX9_thrown_1 : decode cX9_thrown 1 = .ok (.getfield 70, 3) := by decide +kernel
theorem dX9_thrown_4 : decode cX9_thrown 4 = .ok (.ireturn, 1) := by decide +kernel
theorem dX9_in_0 : decode cX9_in 0 = .ok (.lload_n 0, 1) := by decide +kernel
theorem dX9_in_1 : decode cX9_in 1 = .ok (.lload_n 2, 1) := by decide +kernel
theorem dX9_in_2 : decode cX9_in 2 = .ok (.lcmp, 1) := by decide +kernel
theorem dX9_in_3 : decode cX9_in 3 = .ok (.ifCond .lt 14, 3) := by decide +kernel
theorem dX9_in_6 : decode cX9_in 6 = .ok (.lload_n 0, 1) := by decide +kernel
theorem dX9_in_7 : decode cX9_in 7 = .ok (.lload 4, 2) := by decide +kernel
theorem dX9_in_9 : decode cX9_in 9 = .ok (.lcmp, 1) := by decide +kernel
theorem dX9_in_10 : decode cX9_in 10 = .ok (.ifCond .gt 7, 3) := by decide +kernel
theorem dX9_in_13 : decode cX9_in 13 = .ok (.iconst 1, 1) := by decide +kernel
theorem dX9_in_14 : decode cX9_in 14 = .ok (.goto 4, 3) := by decide +kernel
theorem dX9_in_17 : decode cX9_in 17 = .ok (.iconst 0, 1) := by decide +kernel
theorem dX9_in_18 : decode cX9_in 18 = .ok (.ireturn, 1) := by decide +kernel
theorem dX9_fits_0 : decode cX9_fits 0 = .ok (.lload_n 0, 1) := by decide +kernel
theorem dX9_fits_1 : decode cX9_fits 1 = .ok (.lconst 1, 1) := by decide +kernel
theorem dX9_fits_2 : decode cX9_fits 2 = .ok (.iload_n 2, 1) := by decide +kernel
theorem dX9_fits_3 : decode cX9_fits 3 = .ok (.iconst 1, 1) := by decide +kernel
theorem dX9_fits_4 : decode cX9_fits 4 = .ok (.isub, 1) := by decide +kernel
theorem dX9_fits_5 : decode cX9_fits 5 = .ok (.lshl, 1) := by decide +kernel
theorem dX9_fits_6 : decode cX9_fits 6 = .ok (.lneg, 1) := by decide +kernel
theorem dX9_fits_7 : decode cX9_fits 7 = .ok (.lcmp, 1) := by decide +kernel
theorem dX9_fits_8 : decode cX9_fits 8 = .ok (.ifCond .lt 17, 3) := by decide +kernel
theorem dX9_fits_11 : decode cX9_fits 11 = .ok (.lload_n 0, 1) := by decide +kernel
theorem dX9_fits_12 : decode cX9_fits 12 = .ok (.lconst 1, 1) := by decide +kernel
theorem dX9_fits_13 : decode cX9_fits 13 = .ok (.iload_n 2, 1) := by decide +kernel
theorem dX9_fits_14 : decode cX9_fits 14 = .ok (.iconst 1, 1) := by decide +kernel
theorem dX9_fits_15 : decode cX9_fits 15 = .ok (.isub, 1) := by decide +kernel
theorem dX9_fits_16 : decode cX9_fits 16 = .ok (.lshl, 1) := by decide +kernel
theorem dX9_fits_17 : decode cX9_fits 17 = .ok (.lcmp, 1) := by decide +kernel
theorem dX9_fits_18 : decode cX9_fits 18 = .ok (.ifCond .ge 7, 3) := by decide +kernel
theorem dX9_fits_21 : decode cX9_fits 21 = .ok (.iconst 1, 1) := by decide +kernel
theorem dX9_fits_22 : decode cX9_fits 22 = .ok (.goto 4, 3) := by decide +kernel
theorem dX9_fits_25 : decode cX9_fits 25 = .ok (.iconst 0, 1) := by decide +kernel
theorem dX9_fits_26 : decode cX9_fits 26 = .ok (.ireturn, 1) := by decide +kernel
theorem dX9_shape_0 : decode cX9_shape 0 = .ok (.aload_n 0, 1) := by decide +kernel
theorem dX9_shape_1 : decode cX9_shape 1 = .ok (.iload_n 1, 1) := by decide +kernel
theorem dX9_shape_2 : decode cX9_shape 2 = .ok (.i2l, 1) := by decide +kernel
theorem dX9_shape_3 : decode cX9_shape 3 = .ok (.lconst 1, 1) := by decide +kernel
theorem dX9_shape_4 : decode cX9_shape 4 = .ok (.ldc2_w 73, 3) := by decide +kernel
theorem dX9_shape_7 : decode cX9_shape 7 = .ok (.invokestatic 75, 3) := by decide +kernel
theorem dX9_shape_10 : decode cX9_shape 10 = .ok (.ifCond .eq 48, 3) := by decide +kernel
theorem dX9_shape_13 : decode cX9_shape 13 = .ok (.iload_n 2, 1) := by decide +kernel
theorem dX9_shape_14 : decode cX9_shape 14 = .ok (.i2l, 1) := by decide +kernel
theorem dX9_shape_15 : decode cX9_shape 15 = .ok (.ldc2_w 79, 3) := by decide +kernel
theorem dX9_shape_18 : decode cX9_shape 18 = .ok (.ldc2_w 81, 3) := by decide +kernel
theorem dX9_shape_21 : decode cX9_shape 21 = .ok (.invokestatic 75, 3) := by decide +kernel
theorem dX9_shape_24 : decode cX9_shape 24 = .ok (.ifCond .eq 34, 3) := by decide +kernel
theorem dX9_shape_27 : decode cX9_shape 27 = .ok (.iload_n 3, 1) := by decide +kernel
theorem dX9_shape_28 : decode cX9_shape 28 = .ok (.i2l, 1) := by decide +kernel
theorem dX9_shape_29 : decode cX9_shape 29 = .ok (.ldc2_w 83, 3) := by decide +kernel
theorem dX9_shape_32 : decode cX9_shape 32 = .ok (.ldc2_w 85, 3) := by decide +kernel
theorem dX9_shape_35 : decode cX9_shape 35 = .ok (.invokestatic 75, 3) := by decide +kernel
theorem dX9_shape_38 : decode cX9_shape 38 = .ok (.ifCond .eq 20, 3) := by decide +kernel
theorem dX9_shape_41 : decode cX9_shape 41 = .ok (.iload 4, 2) := by decide +kernel
theorem dX9_shape_43 : decode cX9_shape 43 = .ok (.i2l, 1) := by decide +kernel
theorem dX9_shape_44 : decode cX9_shape 44 = .ok (.lconst 1, 1) := by decide +kernel
theorem dX9_shape_45 : decode cX9_shape 45 = .ok (.ldc2_w 87, 3) := by decide +kernel
theorem dX9_shape_48 : decode cX9_shape 48 = .ok (.invokestatic 75, 3) := by decide +kernel
theorem dX9_shape_51 : decode cX9_shape 51 = .ok (.ifCond .eq 7, 3) := by decide +kernel
theorem dX9_shape_54 : decode cX9_shape 54 = .ok (.iconst 0, 1) := by decide +kernel
theorem dX9_shape_55 : decode cX9_shape 55 = .ok (.goto 4, 3) := by decide +kernel
theorem dX9_shape_58 : decode cX9_shape 58 = .ok (.iconst 1, 1) := by decide +kernel
theorem dX9_shape_59 : decode cX9_shape 59 = .ok (.putfield 70, 3) := by decide +kernel
theorem dX9_shape_62 : decode cX9_shape 62 = .ok (.aload_n 0, 1) := by decide +kernel
theorem dX9_shape_63 : decode cX9_shape 63 = .ok (.getfield 70, 3) := by decide +kernel
theorem dX9_shape_66 : decode cX9_shape 66 = .ok (.ifCond .le 4, 3) := by decide +kernel
theorem dX9_shape_69 : decode cX9_shape 69 = .ok (.return_, 1) := by decide +kernel
theorem dX9_shape_70 : decode cX9_shape 70 = .ok (.aload_n 0, 1) := by decide +kernel
theorem dX9_shape_71 : decode cX9_shape 71 = .ok (.iload_n 1, 1) := by decide +kernel
theorem dX9_shape_72 : decode cX9_shape 72 = .ok (.putfield 7, 3) := by decide +kernel
theorem dX9_shape_75 : decode cX9_shape 75 = .ok (.aload_n 0, 1) := by decide +kernel
theorem dX9_shape_76 : decode cX9_shape 76 = .ok (.iload_n 2, 1) := by decide +kernel
theorem dX9_shape_77 : decode cX9_shape 77 = .ok (.putfield 13, 3) := by decide +kernel
theorem dX9_shape_80 : decode cX9_shape 80 = .ok (.aload_n 0, 1) := by decide +kernel
theorem dX9_shape_81 : decode cX9_shape 81 = .ok (.iload_n 3, 1) := by decide +kernel
theorem dX9_shape_82 : decode cX9_shape 82 = .ok (.putfield 16, 3) := by decide +kernel
theorem dX9_shape_85 : decode cX9_shape 85 = .ok (.aload_n 0, 1) := by decide +kernel
theorem dX9_shape_86 : decode cX9_shape 86 = .ok (.iload 4, 2) := by decide +kernel
theorem dX9_shape_88 : decode cX9_shape 88 = .ok (.putfield 20, 3) := by decide +kernel
theorem dX9_shape_91 : decode cX9_shape 91 = .ok (.aload_n 0, 1) := by decide +kernel
theorem dX9_shape_92 : decode cX9_shape 92 = .ok (.iconst 0, 1) := by decide +kernel
theorem dX9_shape_93 : decode cX9_shape 93 = .ok (.putfield 89, 3) := by decide +kernel
theorem dX9_shape_96 : decode cX9_shape 96 = .ok (.return_, 1) := by decide +kernel
theorem dX9_predict_0 : decode cX9_predict 0 = .ok (.aload_n 0, 1) := by decide +kernel
theorem dX9_predict_1 : decode cX9_predict 1 = .ok (.iload_n 1, 1) := by decide +kernel
theorem dX9_predict_2 : decode cX9_predict 2 = .ok (.i2l, 1) := by decide +kernel
theorem dX9_predict_3 : decode cX9_predict 3 = .ok (.lconst 0, 1) := by decide +kernel
theorem dX9_predict_4 : decode cX9_predict 4 = .ok (.ldc2_w 92, 3) := by decide +kernel
theorem dX9_predict_7 : decode cX9_predict 7 = .ok (.invokestatic 75, 3) := by decide +kernel
theorem dX9_predict_10 : decode cX9_predict 10 = .ok (.ifCond .eq 7, 3) := by decide +kernel
theorem dX9_predict_13 : decode cX9_predict 13 = .ok (.iconst 0, 1) := by decide +kernel
theorem dX9_predict_14 : decode cX9_predict 14 = .ok (.goto 4, 3) := by decide +kernel
theorem dX9_predict_17 : decode cX9_predict 17 = .ok (.iconst 1, 1) := by decide +kernel
theorem dX9_predict_18 : decode cX9_predict 18 = .ok (.putfield 70, 3) := by decide +kernel
theorem dX9_predict_21 : decode cX9_predict 21 = .ok (.aload_n 0, 1) := by decide +kernel
theorem dX9_predict_22 : decode cX9_predict 22 = .ok (.getfield 70, 3) := by decide +kernel
theorem dX9_predict_25 : decode cX9_predict 25 = .ok (.ifCond .le 4, 3) := by decide +kernel
theorem dX9_predict_28 : decode cX9_predict 28 = .ok (.return_, 1) := by decide +kernel
theorem dX9_predict_29 : decode cX9_predict 29 = .ok (.aload_n 0, 1) := by decide +kernel
theorem dX9_predict_30 : decode cX9_predict 30 = .ok (.iload_n 1, 1) := by decide +kernel
theorem dX9_predict_31 : decode cX9_predict 31 = .ok (.putfield 94, 3) := by decide +kernel
theorem dX9_predict_34 : decode cX9_predict 34 = .ok (.aload_n 0, 1) := by decide +kernel
theorem dX9_predict_35 : decode cX9_predict 35 = .ok (.iconst 0, 1) := by decide +kernel
theorem dX9_predict_36 : decode cX9_predict 36 = .ok (.putfield 97, 3) := by decide +kernel
theorem dX9_predict_39 : decode cX9_predict 39 = .ok (.return_, 1) := by decide +kernel
theorem dX9_coefficient_0 : decode cX9_coefficient 0 = .ok (.aload_n 0, 1) := by decide +kernel
theorem dX9_coefficient_1 : decode cX9_coefficient 1 = .ok (.iload_n 1, 1) := by decide +kernel
theorem dX9_coefficient_2 : decode cX9_coefficient 2 = .ok (.i2l, 1) := by decide +kernel
theorem dX9_coefficient_3 : decode cX9_coefficient 3 = .ok (.ldc2_w 100, 3) := by decide +kernel
theorem dX9_coefficient_6 : decode cX9_coefficient 6 = .ok (.ldc2_w 102, 3) := by decide +kernel
theorem dX9_coefficient_9 : decode cX9_coefficient 9 = .ok (.invokestatic 75, 3) := by decide +kernel
theorem dX9_coefficient_12 : decode cX9_coefficient 12 = .ok (.ifCond .ne 7, 3) := by decide +kernel
theorem dX9_coefficient_15 : decode cX9_coefficient 15 = .ok (.iconst 1, 1) := by decide +kernel
theorem dX9_coefficient_16 : decode cX9_coefficient 16 = .ok (.goto 17, 3) := by decide +kernel
theorem dX9_coefficient_19 : decode cX9_coefficient 19 = .ok (.aload_n 0, 1) := by decide +kernel
theorem dX9_coefficient_20 : decode cX9_coefficient 20 = .ok (.getfield 97, 3) := by decide +kernel
theorem dX9_coefficient_23 : decode cX9_coefficient 23 = .ok (.bipush 8, 2) := by decide +kernel
theorem dX9_coefficient_25 : decode cX9_coefficient 25 = .ok (.if_icmp .ne 7, 3) := by decide +kernel
theorem dX9_coefficient_28 : decode cX9_coefficient 28 = .ok (.iconst 2, 1) := by decide +kernel
theorem dX9_coefficient_29 : decode cX9_coefficient 29 = .ok (.goto 4, 3) := by decide +kernel
theorem dX9_coefficient_32 : decode cX9_coefficient 32 = .ok (.iconst 0, 1) := by decide +kernel
theorem dX9_coefficient_33 : decode cX9_coefficient 33 = .ok (.putfield 70, 3) := by decide +kernel
theorem dX9_coefficient_36 : decode cX9_coefficient 36 = .ok (.aload_n 0, 1) := by decide +kernel
theorem dX9_coefficient_37 : decode cX9_coefficient 37 = .ok (.getfield 70, 3) := by decide +kernel
theorem dX9_coefficient_40 : decode cX9_coefficient 40 = .ok (.ifCond .le 4, 3) := by decide +kernel
theorem dX9_coefficient_43 : decode cX9_coefficient 43 = .ok (.return_, 1) := by decide +kernel
theorem dX9_coefficient_44 : decode cX9_coefficient 44 = .ok (.aload_n 0, 1) := by decide +kernel
theorem dX9_coefficient_45 : decode cX9_coefficient 45 = .ok (.getfield 23, 3) := by decide +kernel
theorem dX9_coefficient_48 : decode cX9_coefficient 48 = .ok (.aload_n 0, 1) := by decide +kernel
theorem dX9_coefficient_49 : decode cX9_coefficient 49 = .ok (.getfield 97, 3) := by decide +kernel
theorem dX9_coefficient_52 : decode cX9_coefficient 52 = .ok (.iload_n 1, 1) := by decide +kernel
theorem dX9_coefficient_53 : decode cX9_coefficient 53 = .ok (.iastore, 1) := by decide +kernel
theorem dX9_coefficient_54 : decode cX9_coefficient 54 = .ok (.aload_n 0, 1) := by decide +kernel
theorem dX9_coefficient_55 : decode cX9_coefficient 55 = .ok (.dup, 1) := by decide +kernel
theorem dX9_coefficient_56 : decode cX9_coefficient 56 = .ok (.getfield 97, 3) := by decide +kernel
theorem dX9_coefficient_59 : decode cX9_coefficient 59 = .ok (.iconst 1, 1) := by decide +kernel
theorem dX9_coefficient_60 : decode cX9_coefficient 60 = .ok (.iadd, 1) := by decide +kernel
theorem dX9_coefficient_61 : decode cX9_coefficient 61 = .ok (.putfield 97, 3) := by decide +kernel
theorem dX9_coefficient_64 : decode cX9_coefficient 64 = .ok (.return_, 1) := by decide +kernel
theorem dX9_push_0 : decode cX9_push 0 = .ok (.aload_n 0, 1) := by decide +kernel
theorem dX9_push_1 : decode cX9_push 1 = .ok (.iload_n 1, 1) := by decide +kernel
theorem dX9_push_2 : decode cX9_push 2 = .ok (.i2l, 1) := by decide +kernel
theorem dX9_push_3 : decode cX9_push 3 = .ok (.aload_n 0, 1) := by decide +kernel
theorem dX9_push_4 : decode cX9_push 4 = .ok (.getfield 13, 3) := by decide +kernel
theorem dX9_push_7 : decode cX9_push 7 = .ok (.invokestatic 104, 3) := by decide +kernel
theorem dX9_push_10 : decode cX9_push 10 = .ok (.ifCond .ne 7, 3) := by decide +kernel
theorem dX9_push_13 : decode cX9_push 13 = .ok (.iconst 1, 1) := by decide +kernel
theorem dX9_push_14 : decode cX9_push 14 = .ok (.goto 18, 3) := by decide +kernel
theorem dX9_push_17 : decode cX9_push 17 = .ok (.aload_n 0, 1) := by decide +kernel
theorem dX9_push_18 : decode cX9_push 18 = .ok (.getfield 89, 3) := by decide +kernel
theorem dX9_push_21 : decode cX9_push 21 = .ok (.sipush 4096, 3) := by decide +kernel
theorem dX9_push_24 : decode cX9_push 24 = .ok (.if_icmp .ne 7, 3) := by decide +kernel
theorem dX9_push_27 : decode cX9_push 27 = .ok (.iconst 2, 1) := by decide +kernel
theorem dX9_push_28 : decode cX9_push 28 = .ok (.goto 4, 3) := by decide +kernel
theorem dX9_push_31 : decode cX9_push 31 = .ok (.iconst 0, 1) := by decide +kernel
theorem dX9_push_32 : decode cX9_push 32 = .ok (.putfield 70, 3) := by decide +kernel
theorem dX9_push_35 : decode cX9_push 35 = .ok (.aload_n 0, 1) := by decide +kernel
theorem dX9_push_36 : decode cX9_push 36 = .ok (.getfield 70, 3) := by decide +kernel
theorem dX9_push_39 : decode cX9_push 39 = .ok (.ifCond .le 4, 3) := by decide +kernel
theorem dX9_push_42 : decode cX9_push 42 = .ok (.return_, 1) := by decide +kernel
theorem dX9_push_43 : decode cX9_push 43 = .ok (.aload_n 0, 1) := by decide +kernel
theorem dX9_push_44 : decode cX9_push 44 = .ok (.getfield 27, 3) := by decide +kernel
theorem dX9_push_47 : decode cX9_push 47 = .ok (.aload_n 0, 1) := by decide +kernel
theorem dX9_push_48 : decode cX9_push 48 = .ok (.getfield 89, 3) := by decide +kernel
theorem dX9_push_51 : decode cX9_push 51 = .ok (.iload_n 1, 1) := by decide +kernel
theorem dX9_push_52 : decode cX9_push 52 = .ok (.iastore, 1) := by decide +kernel
theorem dX9_push_53 : decode cX9_push 53 = .ok (.aload_n 0, 1) := by decide +kernel
theorem dX9_push_54 : decode cX9_push 54 = .ok (.dup, 1) := by decide +kernel
theorem dX9_push_55 : decode cX9_push 55 = .ok (.getfield 89, 3) := by decide +kernel
theorem dX9_push_58 : decode cX9_push 58 = .ok (.iconst 1, 1) := by decide +kernel
theorem dX9_push_59 : decode cX9_push 59 = .ok (.iadd, 1) := by decide +kernel
theorem dX9_push_60 : decode cX9_push 60 = .ok (.putfield 89, 3) := by decide +kernel
theorem dX9_push_63 : decode cX9_push 63 = .ok (.return_, 1) := by decide +kernel
theorem dX9_isConstant_0 : decode cX9_isConstant 0 = .ok (.iconst 1, 1) := by decide +kernel
theorem dX9_isConstant_1 : decode cX9_isConstant 1 = .ok (.istore_n 1, 1) := by decide +kernel
theorem dX9_isConstant_2 : decode cX9_isConstant 2 = .ok (.iconst 1, 1) := by decide +kernel
theorem dX9_isConstant_3 : decode cX9_isConstant 3 = .ok (.istore_n 2, 1) := by decide +kernel
theorem dX9_isConstant_4 : decode cX9_isConstant 4 = .ok (.iload_n 2, 1) := by decide +kernel
theorem dX9_isConstant_5 : decode cX9_isConstant 5 = .ok (.aload_n 0, 1) := by decide +kernel
theorem dX9_isConstant_6 : decode cX9_isConstant 6 = .ok (.getfield 108, 3) := by decide +kernel
theorem dX9_isConstant_9 : decode cX9_isConstant 9 = .ok (.if_icmp .ge 35, 3) := by decide +kernel
theorem dX9_isConstant_12 : decode cX9_isConstant 12 = .ok (.iload_n 1, 1) := by decide +kernel
theorem dX9_isConstant_13 : decode cX9_isConstant 13 = .ok (.ifCond .eq 23, 3) := by decide +kernel
theorem dX9_isConstant_16 : decode cX9_isConstant 16 = .ok (.aload_n 0, 1) := by decide +kernel
theorem dX9_isConstant_17 : decode cX9_isConstant 17 = .ok (.getfield 55, 3) := by decide +kernel
theorem dX9_isConstant_20 : decode cX9_isConstant 20 = .ok (.iload_n 2, 1) := by decide +kernel
theorem dX9_isConstant_21 : decode cX9_isConstant 21 = .ok (.laload, 1) := by decide +kernel
theorem dX9_isConstant_22 : decode cX9_isConstant 22 = .ok (.aload_n 0, 1) := by decide +kernel
theorem dX9_isConstant_23 : decode cX9_isConstant 23 = .ok (.getfield 55, 3) := by decide +kernel
theorem dX9_isConstant_26 : decode cX9_isConstant 26 = .ok (.iconst 0, 1) := by decide +kernel
theorem dX9_isConstant_27 : decode cX9_isConstant 27 = .ok (.laload, 1) := by decide +kernel
theorem dX9_isConstant_28 : decode cX9_isConstant 28 = .ok (.lcmp, 1) := by decide +kernel
theorem dX9_isConstant_29 : decode cX9_isConstant 29 = .ok (.ifCond .ne 7, 3) := by decide +kernel
theorem dX9_isConstant_32 : decode cX9_isConstant 32 = .ok (.iconst 1, 1) := by decide +kernel
theorem dX9_isConstant_33 : decode cX9_isConstant 33 = .ok (.goto 4, 3) := by decide +kernel
theorem dX9_isConstant_36 : decode cX9_isConstant 36 = .ok (.iconst 0, 1) := by decide +kernel
theorem dX9_isConstant_37 : decode cX9_isConstant 37 = .ok (.istore_n 1, 1) := by decide +kernel
theorem dX9_isConstant_38 : decode cX9_isConstant 38 = .ok (.iinc 2 1, 3) := by decide +kernel
theorem dX9_isConstant_41 : decode cX9_isConstant 41 = .ok (.goto (-37), 3) := by decide +kernel
theorem dX9_isConstant_44 : decode cX9_isConstant 44 = .ok (.iload_n 1, 1) := by decide +kernel
theorem dX9_isConstant_45 : decode cX9_isConstant 45 = .ok (.ireturn, 1) := by decide +kernel
theorem dX9_takeWaste_0 : decode cX9_takeWaste 0 = .ok (.lconst 0, 1) := by decide +kernel
theorem dX9_takeWaste_1 : decode cX9_takeWaste 1 = .ok (.lstore_n 1, 1) := by decide +kernel
theorem dX9_takeWaste_2 : decode cX9_takeWaste 2 = .ok (.iconst 0, 1) := by decide +kernel
theorem dX9_takeWaste_3 : decode cX9_takeWaste 3 = .ok (.istore_n 3, 1) := by decide +kernel
theorem dX9_takeWaste_4 : decode cX9_takeWaste 4 = .ok (.iload_n 3, 1) := by decide +kernel
theorem dX9_takeWaste_5 : decode cX9_takeWaste 5 = .ok (.aload_n 0, 1) := by decide +kernel
theorem dX9_takeWaste_6 : decode cX9_takeWaste 6 = .ok (.getfield 108, 3) := by decide +kernel
theorem dX9_takeWaste_9 : decode cX9_takeWaste 9 = .ok (.if_icmp .ge 18, 3) := by decide +kernel
theorem dX9_takeWaste_12 : decode cX9_takeWaste 12 = .ok (.lload_n 1, 1) := by decide +kernel
theorem dX9_takeWaste_13 : decode cX9_takeWaste 13 = .ok (.aload_n 0, 1) := by decide +kernel
theorem dX9_takeWaste_14 : decode cX9_takeWaste 14 = .ok (.getfield 55, 3) := by decide +kernel
theorem dX9_takeWaste_17 : decode cX9_takeWaste 17 = .ok (.iload_n 3, 1) := by decide +kernel
theorem dX9_takeWaste_18 : decode cX9_takeWaste 18 = .ok (.laload, 1) := by decide +kernel
theorem dX9_takeWaste_19 : decode cX9_takeWaste 19 = .ok (.lor, 1) := by decide +kernel
theorem dX9_takeWaste_20 : decode cX9_takeWaste 20 = .ok (.lstore_n 1, 1) := by decide +kernel
theorem dX9_takeWaste_21 : decode cX9_takeWaste 21 = .ok (.iinc 3 1, 3) := by decide +kernel
theorem dX9_takeWaste_24 : decode cX9_takeWaste 24 = .ok (.goto (-20), 3) := by decide +kernel
theorem dX9_takeWaste_27 : decode cX9_takeWaste 27 = .ok (.iconst 0, 1) := by decide +kernel
theorem dX9_takeWaste_28 : decode cX9_takeWaste 28 = .ok (.istore_n 3, 1) := by decide +kernel
theorem dX9_takeWaste_29 : decode cX9_takeWaste 29 = .ok (.lload_n 1, 1) := by decide +kernel
theorem dX9_takeWaste_30 : decode cX9_takeWaste 30 = .ok (.lconst 0, 1) := by decide +kernel
theorem dX9_takeWaste_31 : decode cX9_takeWaste 31 = .ok (.lcmp, 1) := by decide +kernel
theorem dX9_takeWaste_32 : decode cX9_takeWaste 32 = .ok (.ifCond .eq 19, 3) := by decide +kernel
theorem dX9_takeWaste_35 : decode cX9_takeWaste 35 = .ok (.lload_n 1, 1) := by decide +kernel
theorem dX9_takeWaste_36 : decode cX9_takeWaste 36 = .ok (.iload_n 3, 1) := by decide +kernel
theorem dX9_takeWaste_37 : decode cX9_takeWaste 37 = .ok (.lshr, 1) := by decide +kernel
theorem dX9_takeWaste_38 : decode cX9_takeWaste 38 = .ok (.lconst 1, 1) := by decide +kernel
theorem dX9_takeWaste_39 : decode cX9_takeWaste 39 = .ok (.land, 1) := by decide +kernel
theorem dX9_takeWaste_40 : decode cX9_takeWaste 40 = .ok (.lconst 0, 1) := by decide +kernel
theorem dX9_takeWaste_41 : decode cX9_takeWaste 41 = .ok (.lcmp, 1) := by decide +kernel
theorem dX9_takeWaste_42 : decode cX9_takeWaste 42 = .ok (.ifCond .ne 9, 3) := by decide +kernel
theorem dX9_takeWaste_45 : decode cX9_takeWaste 45 = .ok (.iinc 3 1, 3) := by decide +kernel
theorem dX9_takeWaste_48 : decode cX9_takeWaste 48 = .ok (.goto (-19), 3) := by decide +kernel
theorem dX9_takeWaste_51 : decode cX9_takeWaste 51 = .ok (.iconst 0, 1) := by decide +kernel
theorem dX9_takeWaste_52 : decode cX9_takeWaste 52 = .ok (.istore 4, 2) := by decide +kernel
theorem dX9_takeWaste_54 : decode cX9_takeWaste 54 = .ok (.iload 4, 2) := by decide +kernel
theorem dX9_takeWaste_56 : decode cX9_takeWaste 56 = .ok (.aload_n 0, 1) := by decide +kernel
theorem dX9_takeWaste_57 : decode cX9_takeWaste 57 = .ok (.getfield 108, 3) := by decide +kernel
theorem dX9_takeWaste_60 : decode cX9_takeWaste 60 = .ok (.if_icmp .ge 25, 3) := by decide +kernel
theorem dX9_takeWaste_63 : decode cX9_takeWaste 63 = .ok (.aload_n 0, 1) := by decide +kernel
theorem dX9_takeWaste_64 : decode cX9_takeWaste 64 = .ok (.getfield 55, 3) := by decide +kernel
theorem dX9_takeWaste_67 : decode cX9_takeWaste 67 = .ok (.iload 4, 2) := by decide +kernel
theorem dX9_takeWaste_69 : decode cX9_takeWaste 69 = .ok (.aload_n 0, 1) := by decide +kernel
theorem dX9_takeWaste_70 : decode cX9_takeWaste 70 = .ok (.getfield 55, 3) := by decide +kernel
theorem dX9_takeWaste_73 : decode cX9_takeWaste 73 = .ok (.iload 4, 2) := by decide +kernel
theorem dX9_takeWaste_75 : decode cX9_takeWaste 75 = .ok (.laload, 1) := by decide +kernel
theorem dX9_takeWaste_76 : decode cX9_takeWaste 76 = .ok (.iload_n 3, 1) := by decide +kernel
theorem dX9_takeWaste_77 : decode cX9_takeWaste 77 = .ok (.lshr, 1) := by decide +kernel
theorem dX9_takeWaste_78 : decode cX9_takeWaste 78 = .ok (.lastore, 1) := by decide +kernel
theorem dX9_takeWaste_79 : decode cX9_takeWaste 79 = .ok (.iinc 4 1, 3) := by decide +kernel
theorem dX9_takeWaste_82 : decode cX9_takeWaste 82 = .ok (.goto (-28), 3) := by decide +kernel
theorem dX9_takeWaste_85 : decode cX9_takeWaste 85 = .ok (.iload_n 3, 1) := by decide +kernel
theorem dX9_takeWaste_86 : decode cX9_takeWaste 86 = .ok (.ireturn, 1) := by decide +kernel
theorem dX9_fixed_0 : decode cX9_fixed 0 = .ok (.iload_n 3, 1) := by decide +kernel
theorem dX9_fixed_1 : decode cX9_fixed 1 = .ok (.ifCond .ne 5, 3) := by decide +kernel
theorem dX9_fixed_4 : decode cX9_fixed 4 = .ok (.lconst 0, 1) := by decide +kernel
theorem dX9_fixed_5 : decode cX9_fixed 5 = .ok (.lreturn, 1) := by decide +kernel
theorem dX9_fixed_6 : decode cX9_fixed 6 = .ok (.aload_n 1, 1) := by decide +kernel
theorem dX9_fixed_7 : decode cX9_fixed 7 = .ok (.iload_n 2, 1) := by decide +kernel
theorem dX9_fixed_8 : decode cX9_fixed 8 = .ok (.iconst 1, 1) := by decide +kernel
theorem dX9_fixed_9 : decode cX9_fixed 9 = .ok (.isub, 1) := by decide +kernel
theorem dX9_fixed_10 : decode cX9_fixed 10 = .ok (.laload, 1) := by decide +kernel
theorem dX9_fixed_11 : decode cX9_fixed 11 = .ok (.lstore 4, 2) := by decide +kernel
theorem dX9_fixed_13 : decode cX9_fixed 13 = .ok (.iload_n 3, 1) := by decide +kernel
theorem dX9_fixed_14 : decode cX9_fixed 14 = .ok (.iconst 1, 1) := by decide +kernel
theorem dX9_fixed_15 : decode cX9_fixed 15 = .ok (.if_icmp .ne 6, 3) := by decide +kernel
theorem dX9_fixed_18 : decode cX9_fixed 18 = .ok (.lload 4, 2) := by decide +kernel
theorem dX9_fixed_20 : decode cX9_fixed 20 = .ok (.lreturn, 1) := by decide +kernel
theorem dX9_fixed_21 : decode cX9_fixed 21 = .ok (.aload_n 1, 1) := by decide +kernel
theorem dX9_fixed_22 : decode cX9_fixed 22 = .ok (.iload_n 2, 1) := by decide +kernel
theorem dX9_fixed_23 : decode cX9_fixed 23 = .ok (.iconst 2, 1) := by decide +kernel
theorem dX9_fixed_24 : decode cX9_fixed 24 = .ok (.isub, 1) := by decide +kernel
theorem dX9_fixed_25 : decode cX9_fixed 25 = .ok (.laload, 1) := by decide +kernel
theorem dX9_fixed_26 : decode cX9_fixed 26 = .ok (.lstore 6, 2) := by decide +kernel
theorem dX9_fixed_28 : decode cX9_fixed 28 = .ok (.iload_n 3, 1) := by decide +kernel
theorem dX9_fixed_29 : decode cX9_fixed 29 = .ok (.iconst 2, 1) := by decide +kernel
theorem dX9_fixed_30 : decode cX9_fixed 30 = .ok (.if_icmp .ne 13, 3) := by decide +kernel
theorem dX9_fixed_33 : decode cX9_fixed 33 = .ok (.ldc2_w 111, 3) := by decide +kernel
theorem dX9_fixed_36 : decode cX9_fixed 36 = .ok (.lload 4, 2) := by decide +kernel
theorem dX9_fixed_38 : decode cX9_fixed 38 = .ok (.lmul, 1) := by decide +kernel
theorem dX9_fixed_39 : decode cX9_fixed 39 = .ok (.lload 6, 2) := by decide +kernel
theorem dX9_fixed_41 : decode cX9_fixed 41 = .ok (.lsub, 1) := by decide +kernel
theorem dX9_fixed_42 : decode cX9_fixed 42 = .ok (.lreturn, 1) := by decide +kernel
theorem dX9_fixed_43 : decode cX9_fixed 43 = .ok (.aload_n 1, 1) := by decide +kernel
theorem dX9_fixed_44 : decode cX9_fixed 44 = .ok (.iload_n 2, 1) := by decide +kernel
theorem dX9_fixed_45 : decode cX9_fixed 45 = .ok (.iconst 3, 1) := by decide +kernel
theorem dX9_fixed_46 : decode cX9_fixed 46 = .ok (.isub, 1) := by decide +kernel
theorem dX9_fixed_47 : decode cX9_fixed 47 = .ok (.laload, 1) := by decide +kernel
theorem dX9_fixed_48 : decode cX9_fixed 48 = .ok (.lstore 8, 2) := by decide +kernel
theorem dX9_fixed_50 : decode cX9_fixed 50 = .ok (.iload_n 3, 1) := by decide +kernel
theorem dX9_fixed_51 : decode cX9_fixed 51 = .ok (.iconst 3, 1) := by decide +kernel
theorem dX9_fixed_52 : decode cX9_fixed 52 = .ok (.if_icmp .ne 22, 3) := by decide +kernel
theorem dX9_fixed_55 : decode cX9_fixed 55 = .ok (.ldc2_w 113, 3) := by decide +kernel
theorem dX9_fixed_58 : decode cX9_fixed 58 = .ok (.lload 4, 2) := by decide +kernel
theorem dX9_fixed_60 : decode cX9_fixed 60 = .ok (.lmul, 1) := by decide +kernel
theorem dX9_fixed_61 : decode cX9_fixed 61 = .ok (.ldc2_w 113, 3) := by decide +kernel
theorem dX9_fixed_64 : decode cX9_fixed 64 = .ok (.lload 6, 2) := by decide +kernel
theorem dX9_fixed_66 : decode cX9_fixed 66 = .ok (.lmul, 1) := by decide +kernel
theorem dX9_fixed_67 : decode cX9_fixed 67 = .ok (.lsub, 1) := by decide +kernel
theorem dX9_fixed_68 : decode cX9_fixed 68 = .ok (.lload 8, 2) := by decide +kernel
theorem dX9_fixed_70 : decode cX9_fixed 70 = .ok (.ladd, 1) := by decide +kernel
theorem dX9_fixed_71 : decode cX9_fixed 71 = .ok (.goto 29, 3) := by decide +kernel
theorem dX9_fixed_74 : decode cX9_fixed 74 = .ok (.ldc2_w 79, 3) := by decide +kernel
theorem dX9_fixed_77 : decode cX9_fixed 77 = .ok (.lload 4, 2) := by decide +kernel
theorem dX9_fixed_79 : decode cX9_fixed 79 = .ok (.lmul, 1) := by decide +kernel
theorem dX9_fixed_80 : decode cX9_fixed 80 = .ok (.ldc2_w 115, 3) := by decide +kernel
theorem dX9_fixed_83 : decode cX9_fixed 83 = .ok (.lload 6, 2) := by decide +kernel
theorem dX9_fixed_85 : decode cX9_fixed 85 = .ok (.lmul, 1) := by decide +kernel
theorem dX9_fixed_86 : decode cX9_fixed 86 = .ok (.lsub, 1) := by decide +kernel
theorem dX9_fixed_87 : decode cX9_fixed 87 = .ok (.ldc2_w 79, 3) := by decide +kernel
theorem dX9_fixed_90 : decode cX9_fixed 90 = .ok (.lload 8, 2) := by decide +kernel
theorem dX9_fixed_92 : decode cX9_fixed 92 = .ok (.lmul, 1) := by decide +kernel
theorem dX9_fixed_93 : decode cX9_fixed 93 = .ok (.ladd, 1) := by decide +kernel
theorem dX9_fixed_94 : decode cX9_fixed 94 = .ok (.aload_n 1, 1) := by decide +kernel
theorem dX9_fixed_95 : decode cX9_fixed 95 = .ok (.iload_n 2, 1) := by decide +kernel
theorem dX9_fixed_96 : decode cX9_fixed 96 = .ok (.iconst 4, 1) := by decide +kernel
theorem dX9_fixed_97 : decode cX9_fixed 97 = .ok (.isub, 1) := by decide +kernel
theorem dX9_fixed_98 : decode cX9_fixed 98 = .ok (.laload, 1) := by decide +kernel
theorem dX9_fixed_99 : decode cX9_fixed 99 = .ok (.lsub, 1) := by decide +kernel
theorem dX9_fixed_100 : decode cX9_fixed 100 = .ok (.lreturn, 1) := by decide +kernel
theorem dX9_summed_0 : decode cX9_summed 0 = .ok (.lconst 0, 1) := by decide +kernel
theorem dX9_summed_1 : decode cX9_summed 1 = .ok (.lstore_n 2, 1) := by decide +kernel
theorem dX9_summed_2 : decode cX9_summed 2 = .ok (.iconst 0, 1) := by decide +kernel
theorem dX9_summed_3 : decode cX9_summed 3 = .ok (.istore 4, 2) := by decide +kernel
theorem dX9_summed_5 : decode cX9_summed 5 = .ok (.iload 4, 2) := by decide +kernel
theorem dX9_summed_7 : decode cX9_summed 7 = .ok (.aload_n 0, 1) := by decide +kernel
theorem dX9_summed_8 : decode cX9_summed 8 = .ok (.getfield 97, 3) := by decide +kernel
theorem dX9_summed_11 : decode cX9_summed 11 = .ok (.if_icmp .ge 32, 3) := by decide +kernel
theorem dX9_summed_14 : decode cX9_summed 14 = .ok (.lload_n 2, 1) := by decide +kernel
theorem dX9_summed_15 : decode cX9_summed 15 = .ok (.aload_n 0, 1) := by decide +kernel
theorem dX9_summed_16 : decode cX9_summed 16 = .ok (.getfield 23, 3) := by decide +kernel
theorem dX9_summed_19 : decode cX9_summed 19 = .ok (.iload 4, 2) := by decide +kernel
theorem dX9_summed_21 : decode cX9_summed 21 = .ok (.iaload, 1) := by decide +kernel
theorem dX9_summed_22 : decode cX9_summed 22 = .ok (.i2l, 1) := by decide +kernel
theorem dX9_summed_23 : decode cX9_summed 23 = .ok (.aload_n 0, 1) := by decide +kernel
theorem dX9_summed_24 : decode cX9_summed 24 = .ok (.getfield 55, 3) := by decide +kernel
theorem dX9_summed_27 : decode cX9_summed 27 = .ok (.iload_n 1, 1) := by decide +kernel
theorem dX9_summed_28 : decode cX9_summed 28 = .ok (.iconst 1, 1) := by decide +kernel
theorem dX9_summed_29 : decode cX9_summed 29 = .ok (.isub, 1) := by decide +kernel
theorem dX9_summed_30 : decode cX9_summed 30 = .ok (.iload 4, 2) := by decide +kernel
theorem dX9_summed_32 : decode cX9_summed 32 = .ok (.isub, 1) := by decide +kernel
theorem dX9_summed_33 : decode cX9_summed 33 = .ok (.laload, 1) := by decide +kernel
theorem dX9_summed_34 : decode cX9_summed 34 = .ok (.lmul, 1) := by decide +kernel
theorem dX9_summed_35 : decode cX9_summed 35 = .ok (.ladd, 1) := by decide +kernel
theorem dX9_summed_36 : decode cX9_summed 36 = .ok (.lstore_n 2, 1) := by decide +kernel
theorem dX9_summed_37 : decode cX9_summed 37 = .ok (.iinc 4 1, 3) := by decide +kernel
theorem dX9_summed_40 : decode cX9_summed 40 = .ok (.goto (-35), 3) := by decide +kernel
theorem dX9_summed_43 : decode cX9_summed 43 = .ok (.lload_n 2, 1) := by decide +kernel
theorem dX9_summed_44 : decode cX9_summed 44 = .ok (.aload_n 0, 1) := by decide +kernel
theorem dX9_summed_45 : decode cX9_summed 45 = .ok (.getfield 94, 3) := by decide +kernel
theorem dX9_summed_48 : decode cX9_summed 48 = .ok (.lshr, 1) := by decide +kernel
theorem dX9_summed_49 : decode cX9_summed 49 = .ok (.lreturn, 1) := by decide +kernel
theorem dX9_leave_0 : decode cX9_leave 0 = .ok (.iconst 1, 1) := by decide +kernel
theorem dX9_leave_1 : decode cX9_leave 1 = .ok (.istore_n 2, 1) := by decide +kernel
theorem dX9_leave_2 : decode cX9_leave 2 = .ok (.iload_n 1, 1) := by decide +kernel
theorem dX9_leave_3 : decode cX9_leave 3 = .ok (.invokestatic 117, 3) := by decide +kernel
theorem dX9_leave_6 : decode cX9_leave 6 = .ok (.istore_n 3, 1) := by decide +kernel
theorem dX9_leave_7 : decode cX9_leave 7 = .ok (.iload_n 3, 1) := by decide +kernel
