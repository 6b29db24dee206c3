theorem dX0_init_0 : decode cX0_init 0 = .ok (.aload_n 0, 1) := by decide +kernel
theorem dX0_init_1 : decode cX0_init 1 = .ok (.invokespecial 3, 3) := by decide +kernel
theorem dX0_init_4 : decode cX0_init 4 = .ok (.aload_n 0, 1) := by decide +kernel
theorem dX0_init_5 : decode cX0_init 5 = .ok (.new 9, 3) := by decide +kernel
theorem dX0_init_8 : decode cX0_init 8 = .ok (.dup, 1) := by decide +kernel
theorem dX0_init_9 : decode cX0_init 9 = .ok (.iconst 4, 1) := by decide +kernel
theorem dX0_init_10 : decode cX0_init 10 = .ok (.invokespecial 11, 3) := by decide +kernel
theorem dX0_init_13 : decode cX0_init 13 = .ok (.putfield 14, 3) := by decide +kernel
theorem dX0_init_16 : decode cX0_init 16 = .ok (.aload_n 0, 1) := by decide +kernel
theorem dX0_init_17 : decode cX0_init 17 = .ok (.new 20, 3) := by decide +kernel
theorem dX0_init_20 : decode cX0_init 20 = .ok (.dup, 1) := by decide +kernel
theorem dX0_init_21 : decode cX0_init 21 = .ok (.invokespecial 22, 3) := by decide +kernel
theorem dX0_init_24 : decode cX0_init 24 = .ok (.putfield 23, 3) := by decide +kernel
theorem dX0_init_27 : decode cX0_init 27 = .ok (.return_, 1) := by decide +kernel
theorem dX0_choose_0 : decode cX0_choose 0 = .ok (.aload_n 1, 1) := by decide +kernel
theorem dX0_choose_1 : decode cX0_choose 1 = .ok (.invokevirtual 27, 3) := by decide +kernel
theorem dX0_choose_4 : decode cX0_choose 4 = .ok (.bipush 8, 2) := by decide +kernel
theorem dX0_choose_6 : decode cX0_choose 6 = .ok (.aload_n 1, 1) := by decide +kernel
theorem dX0_choose_7 : decode cX0_choose 7 = .ok (.getfield 32, 3) := by decide +kernel
theorem dX0_choose_10 : decode cX0_choose 10 = .ok (.iadd, 1) := by decide +kernel
theorem dX0_choose_11 : decode cX0_choose 11 = .ok (.istore_n 3, 1) := by decide +kernel
theorem dX0_choose_12 : decode cX0_choose 12 = .ok (.aload_n 1, 1) := by decide +kernel
theorem dX0_choose_13 : decode cX0_choose 13 = .ok (.invokevirtual 36, 3) := by decide +kernel
theorem dX0_choose_16 : decode cX0_choose 16 = .ok (.ifCond .eq 16, 3) := by decide +kernel
theorem dX0_choose_19 : decode cX0_choose 19 = .ok (.aload_n 1, 1) := by decide +kernel
theorem dX0_choose_20 : decode cX0_choose 20 = .ok (.iconst 0, 1) := by decide +kernel
theorem dX0_choose_21 : decode cX0_choose 21 = .ok (.iload_n 3, 1) := by decide +kernel
theorem dX0_choose_22 : decode cX0_choose 22 = .ok (.aload_n 1, 1) := by decide +kernel
theorem dX0_choose_23 : decode cX0_choose 23 = .ok (.getfield 40, 3) := by decide +kernel
theorem dX0_choose_26 : decode cX0_choose 26 = .ok (.iadd, 1) := by decide +kernel
theorem dX0_choose_27 : decode cX0_choose 27 = .ok (.i2l, 1) := by decide +kernel
theorem dX0_choose_28 : decode cX0_choose 28 = .ok (.iconst (-1), 1) := by decide +kernel
theorem dX0_choose_29 : decode cX0_choose 29 = .ok (.invokevirtual 43, 3) := by decide +kernel
theorem dX0_choose_32 : decode cX0_choose 32 = .ok (.iconst 0, 1) := by decide +kernel
theorem dX0_choose_33 : decode cX0_choose 33 = .ok (.istore 4, 2) := by decide +kernel
theorem dX0_choose_35 : decode cX0_choose 35 = .ok (.iload 4, 2) := by decide +kernel
theorem dX0_choose_37 : decode cX0_choose 37 = .ok (.iconst 4, 1) := by decide +kernel
theorem dX0_choose_38 : decode cX0_choose 38 = .ok (.if_icmp .gt 42, 3) := by decide +kernel
theorem dX0_choose_41 : decode cX0_choose 41 = .ok (.iload 4, 2) := by decide +kernel
theorem dX0_choose_43 : decode cX0_choose 43 = .ok (.aload_n 1, 1) := by decide +kernel
theorem dX0_choose_44 : decode cX0_choose 44 = .ok (.getfield 47, 3) := by decide +kernel
theorem dX0_choose_47 : decode cX0_choose 47 = .ok (.if_icmp .gt 33, 3) := by decide +kernel
theorem dX0_choose_50 : decode cX0_choose 50 = .ok (.aload_n 0, 1) := by decide +kernel
theorem dX0_choose_51 : decode cX0_choose 51 = .ok (.getfield 14, 3) := by decide +kernel
theorem dX0_choose_54 : decode cX0_choose 54 = .ok (.iload 4, 2) := by decide +kernel
theorem dX0_choose_56 : decode cX0_choose 56 = .ok (.invokevirtual 50, 3) := by decide +kernel
theorem dX0_choose_59 : decode cX0_choose 59 = .ok (.aload_n 0, 1) := by decide +kernel
theorem dX0_choose_60 : decode cX0_choose 60 = .ok (.aload_n 1, 1) := by decide +kernel
theorem dX0_choose_61 : decode cX0_choose 61 = .ok (.bipush 8, 2) := by decide +kernel
theorem dX0_choose_63 : decode cX0_choose 63 = .ok (.iload 4, 2) := by decide +kernel
theorem dX0_choose_65 : decode cX0_choose 65 = .ok (.iadd, 1) := by decide +kernel
theorem dX0_choose_66 : decode cX0_choose 66 = .ok (.iload_n 3, 1) := by decide +kernel
theorem dX0_choose_67 : decode cX0_choose 67 = .ok (.aload_n 0, 1) := by decide +kernel
theorem dX0_choose_68 : decode cX0_choose 68 = .ok (.getfield 14, 3) := by decide +kernel
theorem dX0_choose_71 : decode cX0_choose 71 = .ok (.invokevirtual 53, 3) := by decide +kernel
theorem dX0_choose_74 : decode cX0_choose 74 = .ok (.iinc 4 1, 3) := by decide +kernel
theorem dX0_choose_77 : decode cX0_choose 77 = .ok (.goto (-42), 3) := by decide +kernel
theorem dX0_choose_80 : decode cX0_choose 80 = .ok (.aload_n 2, 1) := by decide +kernel
theorem dX0_choose_81 : decode cX0_choose 81 = .ok (.getfield 57, 3) := by decide +kernel
theorem dX0_choose_84 : decode cX0_choose 84 = .ok (.ifCond .le 39, 3) := by decide +kernel
theorem dX0_choose_87 : decode cX0_choose 87 = .ok (.aload_n 2, 1) := by decide +kernel
theorem dX0_choose_88 : decode cX0_choose 88 = .ok (.getfield 57, 3) := by decide +kernel
theorem dX0_choose_91 : decode cX0_choose 91 = .ok (.aload_n 1, 1) := by decide +kernel
theorem dX0_choose_92 : decode cX0_choose 92 = .ok (.getfield 47, 3) := by decide +kernel
theorem dX0_choose_95 : decode cX0_choose 95 = .ok (.if_icmp .gt 28, 3) := by decide +kernel
theorem dX0_choose_98 : decode cX0_choose 98 = .ok (.aload_n 0, 1) := by decide +kernel
theorem dX0_choose_99 : decode cX0_choose 99 = .ok (.aload_n 1, 1) := by decide +kernel
theorem dX0_choose_100 : decode cX0_choose 100 = .ok (.bipush 31, 2) := by decide +kernel
theorem dX0_choose_102 : decode cX0_choose 102 = .ok (.aload_n 2, 1) := by decide +kernel
theorem dX0_choose_103 : decode cX0_choose 103 = .ok (.getfield 57, 3) := by decide +kernel
theorem dX0_choose_106 : decode cX0_choose 106 = .ok (.iadd, 1) := by decide +kernel
theorem dX0_choose_107 : decode cX0_choose 107 = .ok (.iload_n 3, 1) := by decide +kernel
theorem dX0_choose_108 : decode cX0_choose 108 = .ok (.bipush 9, 2) := by decide +kernel
theorem dX0_choose_110 : decode cX0_choose 110 = .ok (.iadd, 1) := by decide +kernel
theorem dX0_choose_111 : decode cX0_choose 111 = .ok (.bipush 15, 2) := by decide +kernel
theorem dX0_choose_113 : decode cX0_choose 113 = .ok (.aload_n 2, 1) := by decide +kernel
theorem dX0_choose_114 : decode cX0_choose 114 = .ok (.getfield 57, 3) := by decide +kernel
theorem dX0_choose_117 : decode cX0_choose 117 = .ok (.imul, 1) := by decide +kernel
theorem dX0_choose_118 : decode cX0_choose 118 = .ok (.iadd, 1) := by decide +kernel
theorem dX0_choose_119 : decode cX0_choose 119 = .ok (.aload_n 2, 1) := by decide +kernel
theorem dX0_choose_120 : decode cX0_choose 120 = .ok (.invokevirtual 53, 3) := by decide +kernel
theorem dX0_choose_123 : decode cX0_choose 123 = .ok (.aload_n 1, 1) := by decide +kernel
theorem dX0_choose_124 : decode cX0_choose 124 = .ok (.iconst 1, 1) := by decide +kernel
theorem dX0_choose_125 : decode cX0_choose 125 = .ok (.iload_n 3, 1) := by decide +kernel
theorem dX0_choose_126 : decode cX0_choose 126 = .ok (.aload_n 1, 1) := by decide +kernel
theorem dX0_choose_127 : decode cX0_choose 127 = .ok (.getfield 47, 3) := by decide +kernel
theorem dX0_choose_130 : decode cX0_choose 130 = .ok (.aload_n 1, 1) := by decide +kernel
theorem dX0_choose_131 : decode cX0_choose 131 = .ok (.getfield 40, 3) := by decide +kernel
theorem dX0_choose_134 : decode cX0_choose 134 = .ok (.imul, 1) := by decide +kernel
theorem dX0_choose_135 : decode cX0_choose 135 = .ok (.iadd, 1) := by decide +kernel
theorem dX0_choose_136 : decode cX0_choose 136 = .ok (.i2l, 1) := by decide +kernel
theorem dX0_choose_137 : decode cX0_choose 137 = .ok (.iconst (-1), 1) := by decide +kernel
theorem dX0_choose_138 : decode cX0_choose 138 = .ok (.invokevirtual 43, 3) := by decide +kernel
theorem dX0_choose_141 : decode cX0_choose 141 = .ok (.return_, 1) := by decide +kernel
theorem dX0_offerPredicted_0 : decode cX0_offerPredicted 0 = .ok (.aload_n 0, 1) := by decide +kernel
theorem dX0_offerPredicted_1 : decode cX0_offerPredicted 1 = .ok (.getfield 23, 3) := by decide +kernel
theorem dX0_offerPredicted_4 : decode cX0_offerPredicted 4 = .ok (.aload_n 1, 1) := by decide +kernel
theorem dX0_offerPredicted_5 : decode cX0_offerPredicted 5 = .ok (.getfield 60, 3) := by decide +kernel
theorem dX0_offerPredicted_8 : decode cX0_offerPredicted 8 = .ok (.aload_n 1, 1) := by decide +kernel
theorem dX0_offerPredicted_9 : decode cX0_offerPredicted 9 = .ok (.getfield 47, 3) := by decide +kernel
theorem dX0_offerPredicted_12 : decode cX0_offerPredicted 12 = .ok (.aload 4, 2) := by decide +kernel
theorem dX0_offerPredicted_14 : decode cX0_offerPredicted 14 = .ok (.invokevirtual 64, 3) := by decide +kernel
theorem dX0_offerPredicted_17 : decode cX0_offerPredicted 17 = .ok (.ifCond .eq 43, 3) := by decide +kernel
theorem dX0_offerPredicted_20 : decode cX0_offerPredicted 20 = .ok (.aload_n 0, 1) := by decide +kernel
theorem dX0_offerPredicted_21 : decode cX0_offerPredicted 21 = .ok (.getfield 23, 3) := by decide +kernel
theorem dX0_offerPredicted_24 : decode cX0_offerPredicted 24 = .ok (.invokevirtual 68, 3) := by decide +kernel
theorem dX0_offerPredicted_27 : decode cX0_offerPredicted 27 = .ok (.aload_n 1, 1) := by decide +kernel
theorem dX0_offerPredicted_28 : decode cX0_offerPredicted 28 = .ok (.iload_n 2, 1) := by decide +kernel
theorem dX0_offerPredicted_29 : decode cX0_offerPredicted 29 = .ok (.iload_n 3, 1) := by decide +kernel
theorem dX0_offerPredicted_30 : decode cX0_offerPredicted 30 = .ok (.aload 4, 2) := by decide +kernel
theorem dX0_offerPredicted_32 : decode cX0_offerPredicted 32 = .ok (.getfield 57, 3) := by decide +kernel
theorem dX0_offerPredicted_35 : decode cX0_offerPredicted 35 = .ok (.aload_n 1, 1) := by decide +kernel
theorem dX0_offerPredicted_36 : decode cX0_offerPredicted 36 = .ok (.getfield 40, 3) := by decide +kernel
theorem dX0_offerPredicted_39 : decode cX0_offerPredicted 39 = .ok (.imul, 1) := by decide +kernel
theorem dX0_offerPredicted_40 : decode cX0_offerPredicted 40 = .ok (.iadd, 1) := by decide +kernel
theorem dX0_offerPredicted_41 : decode cX0_offerPredicted 41 = .ok (.i2l, 1) := by decide +kernel
theorem dX0_offerPredicted_42 : decode cX0_offerPredicted 42 = .ok (.aload_n 0, 1) := by decide +kernel
theorem dX0_offerPredicted_43 : decode cX0_offerPredicted 43 = .ok (.getfield 23, 3) := by decide +kernel
theorem dX0_offerPredicted_46 : decode cX0_offerPredicted 46 = .ok (.getfield 71, 3) := by decide +kernel
theorem dX0_offerPredicted_49 : decode cX0_offerPredicted 49 = .ok (.ladd, 1) := by decide +kernel
theorem dX0_offerPredicted_50 : decode cX0_offerPredicted 50 = .ok (.aload_n 0, 1) := by decide +kernel
theorem dX0_offerPredicted_51 : decode cX0_offerPredicted 51 = .ok (.getfield 23, 3) := by decide +kernel
theorem dX0_offerPredicted_54 : decode cX0_offerPredicted 54 = .ok (.getfield 75, 3) := by decide +kernel
theorem dX0_offerPredicted_57 : decode cX0_offerPredicted 57 = .ok (.invokevirtual 43, 3) := by decide +kernel
theorem dX0_offerPredicted_60 : decode cX0_offerPredicted 60 = .ok (.return_, 1) := by decide +kernel
theorem dX0_write_0 : decode cX0_write 0 = .ok (.aload_n 3, 1) := by decide +kernel
theorem dX0_write_1 : decode cX0_write 1 = .ok (.iconst 1, 1) := by decide +kernel
theorem dX0_write_2 : decode cX0_write 2 = .ok (.lconst 0, 1) := by decide +kernel
theorem dX0_write_3 : decode cX0_write 3 = .ok (.invokevirtual 76, 3) := by decide +kernel
theorem dX0_write_6 : decode cX0_write 6 = .ok (.aload_n 3, 1) := by decide +kernel
theorem dX0_write_7 : decode cX0_write 7 = .ok (.bipush 6, 2) := by decide +kernel
theorem dX0_write_9 : decode cX0_write 9 = .ok (.aload_n 1, 1) := by decide +kernel
theorem dX0_write_10 : decode cX0_write 10 = .ok (.getfield 82, 3) := by decide +kernel
theorem dX0_write_13 : decode cX0_write 13 = .ok (.i2l, 1) := by decide +kernel
theorem dX0_write_14 : decode cX0_write 14 = .ok (.invokevirtual 76, 3) := by decide +kernel
theorem dX0_write_17 : decode cX0_write 17 = .ok (.aload_n 3, 1) := by decide +kernel
theorem dX0_write_18 : decode cX0_write 18 = .ok (.iconst 1, 1) := by decide +kernel
theorem dX0_write_19 : decode cX0_write 19 = .ok (.aload_n 1, 1) := by decide +kernel
theorem dX0_write_20 : decode cX0_write 20 = .ok (.getfield 32, 3) := by decide +kernel
theorem dX0_write_23 : decode cX0_write 23 = .ok (.ifCond .le 7, 3) := by decide +kernel
theorem dX0_write_26 : decode cX0_write 26 = .ok (.lconst 1, 1) := by decide +kernel
theorem dX0_write_27 : decode cX0_write 27 = .ok (.goto 4, 3) := by decide +kernel
theorem dX0_write_30 : decode cX0_write 30 = .ok (.lconst 0, 1) := by decide +kernel
theorem dX0_write_31 : decode cX0_write 31 = .ok (.invokevirtual 76, 3) := by decide +kernel
theorem dX0_write_34 : decode cX0_write 34 = .ok (.aload_n 3, 1) := by decide +kernel
theorem dX0_write_35 : decode cX0_write 35 = .ok (.aload_n 1, 1) := by decide +kernel
theorem dX0_write_36 : decode cX0_write 36 = .ok (.getfield 32, 3) := by decide +kernel
theorem dX0_write_39 : decode cX0_write 39 = .ok (.lconst 1, 1) := by decide +kernel
theorem dX0_write_40 : decode cX0_write 40 = .ok (.invokevirtual 76, 3) := by decide +kernel
theorem dX0_write_43 : decode cX0_write 43 = .ok (.aload_n 1, 1) := by decide +kernel
theorem dX0_write_44 : decode cX0_write 44 = .ok (.getfield 82, 3) := by decide +kernel
theorem dX0_write_47 : decode cX0_write 47 = .ok (.ifCond .ne 12, 3) := by decide +kernel
theorem dX0_write_50 : decode cX0_write 50 = .ok (.aload_n 1, 1) := by decide +kernel
theorem dX0_write_51 : decode cX0_write 51 = .ok (.iconst 1, 1) := by decide +kernel
theorem dX0_write_52 : decode cX0_write 52 = .ok (.aload_n 3, 1) := by decide +kernel
theorem dX0_write_53 : decode cX0_write 53 = .ok (.invokestatic 85, 3) := by decide +kernel
theorem dX0_write_56 : decode cX0_write 56 = .ok (.goto 92, 3) := by decide +kernel
theorem dX0_write_59 : decode cX0_write 59 = .ok (.aload_n 1, 1) := by decide +kernel
theorem dX0_write_60 : decode cX0_write 60 = .ok (.getfield 82, 3) := by decide +kernel
theorem dX0_write_63 : decode cX0_write 63 = .ok (.iconst 1, 1) := by decide +kernel
theorem dX0_write_64 : decode cX0_write 64 = .ok (.if_icmp .ne 15, 3) := by decide +kernel
theorem dX0_write_67 : decode cX0_write 67 = .ok (.aload_n 1, 1) := by decide +kernel
theorem dX0_write_68 : decode cX0_write 68 = .ok (.aload_n 1, 1) := by decide +kernel
theorem dX0_write_69 : decode cX0_write 69 = .ok (.getfield 47, 3) := by decide +kernel
theorem dX0_write_72 : decode cX0_write 72 = .ok (.aload_n 3, 1) := by decide +kernel
theorem dX0_write_73 : decode cX0_write 73 = .ok (.invokestatic 85, 3) := by decide +kernel
theorem dX0_write_76 : decode cX0_write 76 = .ok (.goto 72, 3) := by decide +kernel
theorem dX0_write_79 : decode cX0_write 79 = .ok (.aload_n 1, 1) := by decide +kernel
theorem dX0_write_80 : decode cX0_write 80 = .ok (.getfield 82, 3) := by decide +kernel
theorem dX0_write_83 : decode cX0_write 83 = .ok (.bipush 31, 2) := by decide +kernel
theorem dX0_write_85 : decode cX0_write 85 = .ok (.if_icmp .le 27, 3) := by decide +kernel
theorem dX0_write_88 : decode cX0_write 88 = .ok (.aload_n 1, 1) := by decide +kernel
theorem dX0_write_89 : decode cX0_write 89 = .ok (.aload_n 2, 1) := by decide +kernel
theorem dX0_write_90 : decode cX0_write 90 = .ok (.getfield 57, 3) := by decide +kernel
theorem dX0_write_93 : decode cX0_write 93 = .ok (.aload_n 3, 1) := by decide +kernel
theorem dX0_write_94 : decode cX0_write 94 = .ok (.invokestatic 85, 3) := by decide +kernel
theorem dX0_write_97 : decode cX0_write 97 = .ok (.aload_n 2, 1) := by decide +kernel
theorem dX0_write_98 : decode cX0_write 98 = .ok (.aload_n 3, 1) := by decide +kernel
theorem dX0_write_99 : decode cX0_write 99 = .ok (.invokestatic 89, 3) := by decide +kernel
theorem dX0_write_102 : decode cX0_write 102 = .ok (.aload_n 0, 1) := by decide +kernel
theorem dX0_write_103 : decode cX0_write 103 = .ok (.aload_n 1, 1) := by decide +kernel
theorem dX0_write_104 : decode cX0_write 104 = .ok (.aload_n 2, 1) := by decide +kernel
theorem dX0_write_105 : decode cX0_write 105 = .ok (.aload_n 3, 1) := by decide +kernel
theorem dX0_write_106 : decode cX0_write 106 = .ok (.invokevirtual 93, 3) := by decide +kernel
theorem dX0_write_109 : decode cX0_write 109 = .ok (.goto 39, 3) := by decide +kernel
theorem dX0_write_112 : decode cX0_write 112 = .ok (.aload_n 0, 1) := by decide +kernel
theorem dX0_write_113 : decode cX0_write 113 = .ok (.getfield 14, 3) := by decide +kernel
theorem dX0_write_116 : decode cX0_write 116 = .ok (.aload_n 1, 1) := by decide +kernel
theorem dX0_write_117 : decode cX0_write 117 = .ok (.getfield 82, 3) := by decide +kernel
theorem dX0_write_120 : decode cX0_write 120 = .ok (.bipush 8, 2) := by decide +kernel
theorem dX0_write_122 : decode cX0_write 122 = .ok (.isub, 1) := by decide +kernel
theorem dX0_write_123 : decode cX0_write 123 = .ok (.invokevirtual 50, 3) := by decide +kernel
theorem dX0_write_126 : decode cX0_write 126 = .ok (.aload_n 1, 1) := by decide +kernel
theorem dX0_write_127 : decode cX0_write 127 = .ok (.aload_n 0, 1) := by decide +kernel
theorem dX0_write_128 : decode cX0_write 128 = .ok (.getfield 14, 3) := by decide +kernel
theorem dX0_write_131 : decode cX0_write 131 = .ok (.getfield 57, 3) := by decide +kernel
theorem dX0_write_134 : decode cX0_write 134 = .ok (.aload_n 3, 1) := by decide +kernel
theorem dX0_write_135 : decode cX0_write 135 = .ok (.invokestatic 85, 3) := by decide +kernel
theorem dX0_write_138 : decode cX0_write 138 = .ok (.aload_n 0, 1) := by decide +kernel
theorem dX0_write_139 : decode cX0_write 139 = .ok (.aload_n 1, 1) := by decide +kernel
theorem dX0_write_140 : decode cX0_write 140 = .ok (.aload_n 0, 1) := by decide +kernel
theorem dX0_write_141 : decode cX0_write 141 = .ok (.getfield 14, 3) := by decide +kernel
theorem dX0_write_144 : decode cX0_write 144 = .ok (.aload_n 3, 1) := by decide +kernel
theorem dX0_write_145 : decode cX0_write 145 = .ok (.invokevirtual 93, 3) := by decide +kernel
theorem dX0_write_148 : decode cX0_write 148 = .ok (.return_, 1) := by decide +kernel
theorem dX0_writeNumbers_0 : decode cX0_writeNumbers 0 = .ok (.iconst 0, 1) := by decide +kernel
theorem dX0_writeNumbers_1 : decode cX0_writeNumbers 1 = .ok (.istore_n 3, 1) := by decide +kernel
theorem dX0_writeNumbers_2 : decode cX0_writeNumbers 2 = .ok (.iload_n 3, 1) := by decide +kernel
theorem dX0_writeNumbers_3 : decode cX0_writeNumbers 3 = .ok (.iload_n 1, 1) := by decide +kernel
theorem dX0_writeNumbers_4 : decode cX0_writeNumbers 4 = .ok (.if_icmp .ge 24, 3) := by decide +kernel
theorem dX0_writeNumbers_7 : decode cX0_writeNumbers 7 = .ok (.aload_n 2, 1) := by decide +kernel
theorem dX0_writeNumbers_8 : decode cX0_writeNumbers 8 = .ok (.aload_n 0, 1) := by decide +kernel
theorem dX0_writeNumbers_9 : decode cX0_writeNumbers 9 = .ok (.getfield 40, 3) := by decide +kernel
theorem dX0_writeNumbers_12 : decode cX0_writeNumbers 12 = .ok (.aload_n 0, 1) := by decide +kernel
theorem dX0_writeNumbers_13 : decode cX0_writeNumbers 13 = .ok (.getfield 60, 3) := by decide +kernel
theorem dX0_writeNumbers_16 : decode cX0_writeNumbers 16 = .ok (.iload_n 3, 1) := by decide +kernel
theorem dX0_writeNumbers_17 : decode cX0_writeNumbers 17 = .ok (.iaload, 1) := by decide +kernel
theorem dX0_writeNumbers_18 : decode cX0_writeNumbers 18 = .ok (.i2l, 1) := by decide +kernel
theorem dX0_writeNumbers_19 : decode cX0_writeNumbers 19 = .ok (.invokevirtual 76, 3) := by decide +kernel
theorem dX0_writeNumbers_22 : decode cX0_writeNumbers 22 = .ok (.iinc 3 1, 3) := by decide +kernel
theorem dX0_writeNumbers_25 : decode cX0_writeNumbers 25 = .ok (.goto (-23), 3) := by decide +kernel
theorem dX0_writeNumbers_28 : decode cX0_writeNumbers 28 = .ok (.return_, 1) := by decide +kernel
theorem dX0_writeCoefficients_0 : decode cX0_writeCoefficients 0 = .ok (.aload_n 1, 1) := by decide +kernel
theorem dX0_writeCoefficients_1 : decode cX0_writeCoefficients 1 = .ok (.iconst 4, 1) := by decide +kernel
theorem dX0_writeCoefficients_2 : decode cX0_writeCoefficients 2 = .ok (.ldc2_w 97, 3) := by decide +kernel
theorem dX0_writeCoefficients_5 : decode cX0_writeCoefficients 5 = .ok (.invokevirtual 76, 3) := by decide +kernel
theorem dX0_writeCoefficients_8 : decode cX0_writeCoefficients 8 = .ok (.aload_n 1, 1) := by decide +kernel
theorem dX0_writeCoefficients_9 : decode cX0_writeCoefficients 9 = .ok (.iconst 5, 1) := by decide +kernel
theorem dX0_writeCoefficients_10 : decode cX0_writeCoefficients 10 = .ok (.aload_n 0, 1) := by decide +kernel
theorem dX0_writeCoefficients_11 : decode cX0_writeCoefficients 11 = .ok (.getfield 99, 3) := by decide +kernel
theorem dX0_writeCoefficients_14 : decode cX0_writeCoefficients 14 = .ok (.i2l, 1) := by decide +kernel
theorem dX0_writeCoefficients_15 : decode cX0_writeCoefficients 15 = .ok (.invokevirtual 76, 3) := by decide +kernel
theorem dX0_writeCoefficients_18 : decode cX0_writeCoefficients 18 = .ok (.iconst 0, 1) := by decide +kernel
theorem dX0_writeCoefficients_19 : decode cX0_writeCoefficients 19 = .ok (.istore_n 2, 1) := by decide +kernel
theorem dX0_writeCoefficients_20 : decode cX0_writeCoefficients 20 = .ok (.iload_n 2, 1) := by decide +kernel
theorem dX0_writeCoefficients_21 : decode cX0_writeCoefficients 21 = .ok (.aload_n 0, 1) := by decide +kernel
theorem dX0_writeCoefficients_22 : decode cX0_writeCoefficients 22 = .ok (.getfield 57, 3) := by decide +kernel
theorem dX0_writeCoefficients_25 : decode cX0_writeCoefficients 25 = .ok (.if_icmp .ge 22, 3) := by decide +kernel
theorem dX0_writeCoefficients_28 : decode cX0_writeCoefficients 28 = .ok (.aload_n 1, 1) := by decide +kernel
theorem dX0_writeCoefficients_29 : decode cX0_writeCoefficients 29 = .ok (.bipush 15, 2) := by decide +kernel
theorem dX0_writeCoefficients_31 : decode cX0_writeCoefficients 31 = .ok (.aload_n 0, 1) := by decide +kernel
theorem dX0_writeCoefficients_32 : decode cX0_writeCoefficients 32 = .ok (.getfield 102, 3) := by decide +kernel
theorem dX0_writeCoefficients_35 : decode cX0_writeCoefficients 35 = .ok (.iload_n 2, 1) := by decide +kernel
theorem dX0_writeCoefficients_36 : decode cX0_writeCoefficients 36 = .ok (.iaload, 1) := by decide +kernel
theorem dX0_writeCoefficients_37 : decode cX0_writeCoefficients 37 = .ok (.i2l, 1) := by decide +kernel
theorem dX0_writeCoefficients_38 : decode cX0_writeCoefficients 38 = .ok (.invokevirtual 76, 3) := by decide +kernel
theorem dX0_writeCoefficients_41 : decode cX0_writeCoefficients 41 = .ok (.iinc 2 1, 3) := by decide +kernel
theorem dX0_writeCoefficients_44 : decode cX0_writeCoefficients 44 = .ok (.goto (-24), 3) := by decide +kernel
theorem dX0_writeCoefficients_47 : decode cX0_writeCoefficients 47 = .ok (.return_, 1) := by decide +kernel
theorem dX0_writeResiduals_0 : decode cX0_writeResiduals 0 = .ok (.aload_n 0, 1) := by decide +kernel
theorem dX0_writeResiduals_1 : decode cX0_writeResiduals 1 = .ok (.getfield 23, 3) := by decide +kernel
theorem dX0_writeResiduals_4 : decode cX0_writeResiduals 4 = .ok (.aload_n 1, 1) := by decide +kernel
theorem dX0_writeResiduals_5 : decode cX0_writeResiduals 5 = .ok (.getfield 60, 3) := by decide +kernel
theorem dX0_writeResiduals_8 : decode cX0_writeResiduals 8 = .ok (.aload_n 1, 1) := by decide +kernel
theorem dX0_writeResiduals_9 : decode cX0_writeResiduals 9 = .ok (.getfield 47, 3) := by decide +kernel
theorem dX0_writeResiduals_12 : decode cX0_writeResiduals 12 = .ok (.aload_n 2, 1) := by decide +kernel
theorem dX0_writeResiduals_13 : decode cX0_writeResiduals 13 = .ok (.invokevirtual 64, 3) := by decide +kernel
theorem dX0_writeResiduals_16 : decode cX0_writeResiduals 16 = .ok (.ifCond .eq 18, 3) := by decide +kernel
theorem dX0_writeResiduals_19 : decode cX0_writeResiduals 19 = .ok (.aload_n 0, 1) := by decide +kernel
theorem dX0_writeResiduals_20 : decode cX0_writeResiduals 20 = .ok (.getfield 23, 3) := by decide +kernel
theorem dX0_writeResiduals_23 : decode cX0_writeResiduals 23 = .ok (.invokevirtual 68, 3) := by decide +kernel
theorem dX0_writeResiduals_26 : decode cX0_writeResiduals 26 = .ok (.aload_n 0, 1) := by decide +kernel
theorem dX0_writeResiduals_27 : decode cX0_writeResiduals 27 = .ok (.getfield 23, 3) := by decide +kernel
theorem dX0_writeResiduals_30 : decode cX0_writeResiduals 30 = .ok (.aload_n 3, 1) := by decide +kernel
theorem dX0_writeResiduals_31 : decode cX0_writeResiduals 31 = .ok (.invokevirtual 105, 3) := by decide +kernel
theorem dX0_writeResiduals_34 : decode cX0_writeResiduals 34 = .ok (.return_, 1) := by decide +kernel
theorem dX1_init_0 : decode cX1_init 0 = .ok (.aload_n 0, 1) := by decide +kernel
theorem dX1_init_1 : decode cX1_init 1 = .ok (.invokespecial 3, 3) := by decide +kernel
theorem dX1_init_4 : decode cX1_init 4 = .ok (.aload_n 0, 1) := by decide +kernel
theorem dX1_init_5 : decode cX1_init 5 = .ok (.new 9, 3) := by decide +kernel
theorem dX1_init_8 : decode cX1_init 8 = .ok (.dup, 1) := by decide +kernel
theorem dX1_init_9 : decode cX1_init 9 = .ok (.invokespecial 11, 3) := by decide +kernel
theorem dX1_init_12 : decode cX1_init 12 = .ok (.putfield 12, 3) := by decide +kernel
theorem dX1_init_15 : decode cX1_init 15 = .ok (.aload_n 0, 1) := by decide +kernel
theorem dX1_init_16 : decode cX1_init 16 = .ok (.iconst 0, 1) := by decide +kernel
theorem dX1_init_17 : decode cX1_init 17 = .ok (.putfield 18, 3) := by decide +kernel
theorem dX1_init_20 : decode cX1_init 20 = .ok (.aload_n 0, 1) := by decide +kernel
theorem dX1_init_21 : decode cX1_init 21 = .ok (.iconst 0, 1) := by decide +kernel
theorem dX1_init_22 : decode cX1_init 22 = .ok (.putfield 22, 3) := by decide +kernel
theorem dX1_init_25 : decode cX1_init 25 = .ok (.aload_n 0, 1) := by decide +kernel
theorem dX1_init_26 : decode cX1_init 26 = .ok (.sipush 256, 3) := by decide +kernel
theorem dX1_init_29 : decode cX1_init 29 = .ok (.newarray .int, 2) := by decide +kernel
theorem dX1_init_31 : decode cX1_init 31 = .ok (.putfield 25, 3) := by decide +kernel
theorem dX1_init_34 : decode cX1_init 34 = .ok (.aload_n 0, 1) := by decide +kernel
theorem dX1_init_35 : decode cX1_init 35 = .ok (.sipush 1056, 3) := by decide +kernel
theorem dX1_init_38 : decode cX1_init 38 = .ok (.newarray .int, 2) := by decide +kernel
theorem dX1_init_40 : decode cX1_init 40 = .ok (.putfield 29, 3) := by decide +kernel
theorem dX1_init_43 : decode cX1_init 43 = .ok (.aload_n 0, 1) := by decide +kernel
theorem dX1_init_44 : decode cX1_init 44 = .ok (.new 32, 3) := by decide +kernel
theorem dX1_init_47 : decode cX1_init 47 = .ok (.dup, 1) := by decide +kernel
theorem dX1_init_48 : decode cX1_init 48 = .ok (.invokespecial 34, 3) := by decide +kernel
theorem dX1_init_51 : decode cX1_init 51 = .ok (.putfield 35, 3) := by decide +kernel
theorem dX1_init_54 : decode cX1_init 54 = .ok (.aload_n 0, 1) := by decide +kernel
theorem dX1_init_55 : decode cX1_init 55 = .ok (.bipush 8, 2) := by decide +kernel
theorem dX1_init_57 : decode cX1_init 57 = .ok (.anewarray 39, 3) := by decide +kernel
theorem dX1_init_60 : decode cX1_init 60 = .ok (.putfield 41, 3) := by decide +kernel
theorem dX1_init_63 : decode cX1_init 63 = .ok (.iconst 0, 1) := by decide +kernel
theorem dX1_init_64 : decode cX1_init 64 = .ok (.istore_n 1, 1) := by decide +kernel
theorem dX1_init_65 : decode cX1_init 65 = .ok (.iload_n 1, 1) := by decide +kernel
theorem dX1_init_66 : decode cX1_init 66 = .ok (.bipush 8, 2) := by decide +kernel
theorem dX1_init_68 : decode cX1_init 68 = .ok (.if_icmp .ge 22, 3) := by decide +kernel
theorem dX1_init_71 : decode cX1_init 71 = .ok (.aload_n 0, 1) := by decide +kernel
theorem dX1_init_72 : decode cX1_init 72 = .ok (.getfield 41, 3) := by decide +kernel
theorem dX1_init_75 : decode cX1_init 75 = .ok (.iload_n 1, 1) := by decide +kernel
theorem dX1_init_76 : decode cX1_init 76 = .ok (.new 39, 3) := by decide +kernel
theorem dX1_init_79 : decode cX1_init 79 = .ok (.dup, 1) := by decide +kernel
theorem dX1_init_80 : decode cX1_init 80 = .ok (.invokespecial 45, 3) := by decide +kernel
theorem dX1_init_83 : decode cX1_init 83 = .ok (.aastore, 1) := by decide +kernel
theorem dX1_init_84 : decode cX1_init 84 = .ok (.iinc 1 1, 3) := by decide +kernel
theorem dX1_init_87 : decode cX1_init 87 = .ok (.goto (-22), 3) := by decide +kernel
theorem dX1_init_90 : decode cX1_init 90 = .ok (.return_, 1) := by decide +kernel
theorem dX1_told_0 : decode cX1_told 0 = .ok (.iload_n 3, 1) := by decide +kernel
theorem dX1_told_1 : decode cX1_told 1 = .ok (.iconst 4, 1) := by decide +kernel
theorem dX1_told_2 : decode cX1_told 2 = .ok (.if_icmp .ne 12, 3) := by decide +kernel
theorem dX1_told_5 : decode cX1_told 5 = .ok (.aload_n 0, 1) := by decide +kernel
theorem dX1_told_6 : decode cX1_told 6 = .ok (.getfield 25, 3) := by decide +kernel
theorem dX1_told_9 : decode cX1_told 9 = .ok (.iload_n 1, 1) := by decide +kernel
theorem dX1_told_10 : decode cX1_told 10 = .ok (.iaload, 1) := by decide +kernel
theorem dX1_told_11 : decode cX1_told 11 = .ok (.goto 20, 3) := by decide +kernel
theorem dX1_told_14 : decode cX1_told 14 = .ok (.aload_n 0, 1) := by decide +kernel
theorem dX1_told_15 : decode cX1_told 15 = .ok (.getfield 29, 3) := by decide +kernel
theorem dX1_told_18 : decode cX1_told 18 = .ok (.iload_n 1, 1) := by decide +kernel
theorem dX1_told_19 : decode cX1_told 19 = .ok (.aload_n 0, 1) := by decide +kernel
theorem dX1_told_20 : decode cX1_told 20 = .ok (.getfield 22, 3) := by decide +kernel
theorem dX1_told_23 : decode cX1_told 23 = .ok (.imul, 1) := by decide +kernel
theorem dX1_told_24 : decode cX1_told 24 = .ok (.iload_n 2, 1) := by decide +kernel
theorem dX1_told_25 : decode cX1_told 25 = .ok (.iadd, 1) := by decide +kernel
theorem dX1_told_26 : decode cX1_told 26 = .ok (.iconst 4, 1) := by decide +kernel
theorem dX1_told_27 : decode cX1_told 27 = .ok (.imul, 1) := by decide +kernel
theorem dX1_told_28 : decode cX1_told 28 = .ok (.iload_n 3, 1) := by decide +kernel
theorem dX1_told_29 : decode cX1_told 29 = .ok (.iadd, 1) := by decide +kernel
theorem dX1_told_30 : decode cX1_told 30 = .ok (.iaload, 1) := by decide +kernel
theorem dX1_told_31 : decode cX1_told 31 = .ok (.ireturn, 1) := by decide +kernel
theorem dX1_begin_0 : decode cX1_begin 0 = .ok (.aload_n 0, 1) := by decide +kernel
theorem dX1_begin_1 : decode cX1_begin 1 = .ok (.iconst 0, 1) := by decide +kernel
theorem dX1_begin_2 : decode cX1_begin 2 = .ok (.putfield 18, 3) := by decide +kernel
theorem dX1_begin_5 : decode cX1_begin 5 = .ok (.aload_n 0, 1) := by decide +kernel
theorem dX1_begin_6 : decode cX1_begin 6 = .ok (.aload_n 1, 1) := by decide +kernel
theorem dX1_begin_7 : decode cX1_begin 7 = .ok (.getfield 46, 3) := by decide +kernel
theorem dX1_begin_10 : decode cX1_begin 10 = .ok (.putfield 22, 3) := by decide +kernel
theorem dX1_begin_13 : decode cX1_begin 13 = .ok (.aload_n 0, 1) := by decide +kernel
theorem dX1_begin_14 : decode cX1_begin 14 = .ok (.getfield 12, 3) := by decide +kernel
theorem dX1_begin_17 : decode cX1_begin 17 = .ok (.invokevirtual 49, 3) := by decide +kernel
theorem dX1_begin_20 : decode cX1_begin 20 = .ok (.aload_n 0, 1) := by decide +kernel
theorem dX1_begin_21 : decode cX1_begin 21 = .ok (.getfield 12, 3) := by decide +kernel
theorem dX1_begin_24 : decode cX1_begin 24 = .ok (.bipush 32, 2) := by decide +kernel
theorem dX1_begin_26 : decode cX1_begin 26 = .ok (.ldc2_w 52, 3) := by decide +kernel
theorem dX1_begin_29 : decode cX1_begin 29 = .ok (.invokevirtual 54, 3) := by decide +kernel
theorem dX1_begin_32 : decode cX1_begin 32 = .ok (.aload_n 0, 1) := by decide +kernel
theorem dX1_begin_33 : decode cX1_begin 33 = .ok (.getfield 12, 3) := by decide +kernel
theorem dX1_begin_36 : decode cX1_begin 36 = .ok (.iconst 1, 1) := by decide +kernel
theorem dX1_begin_37 : decode cX1_begin 37 = .ok (.lconst 1, 1) := by decide +kernel
theorem dX1_begin_38 : decode cX1_begin 38 = .ok (.invokevirtual 54, 3) := by decide +kernel
theorem dX1_begin_41 : decode cX1_begin 41 = .ok (.aload_n 0, 1) := by decide +kernel
theorem dX1_begin_42 : decode cX1_begin 42 = .ok (.getfield 12, 3) := by decide +kernel
theorem dX1_begin_45 : decode cX1_begin 45 = .ok (.bipush 7, 2) := by decide +kernel
theorem dX1_begin_47 : decode cX1_begin 47 = .ok (.lconst 0, 1) := by decide +kernel
theorem dX1_begin_48 : decode cX1_begin 48 = .ok (.invokevirtual 54, 3) := by decide +kernel
theorem dX1_begin_51 : decode cX1_begin 51 = .ok (.aload_n 0, 1) := by decide +kernel
theorem dX1_begin_52 : decode cX1_begin 52 = .ok (.getfield 12, 3) := by decide +kernel
theorem dX1_begin_55 : decode cX1_begin 55 = .ok (.bipush 24, 2) := by decide +kernel
theorem dX1_begin_57 : decode cX1_begin 57 = .ok (.ldc2_w 58, 3) := by decide +kernel
theorem dX1_begin_60 : decode cX1_begin 60 = .ok (.invokevirtual 54, 3) := by decide +kernel
theorem dX1_begin_63 : decode cX1_begin 63 = .ok (.aload_n 0, 1) := by decide +kernel
theorem dX1_begin_64 : decode cX1_begin 64 = .ok (.getfield 12, 3) := by decide +kernel
theorem dX1_begin_67 : decode cX1_begin 67 = .ok (.bipush 16, 2) := by decide +kernel
theorem dX1_begin_69 : decode cX1_begin 69 = .ok (.aload_n 1, 1) := by decide +kernel
theorem dX1_begin_70 : decode cX1_begin 70 = .ok (.getfield 60, 3) := by decide +kernel
theorem dX1_begin_73 : decode cX1_begin 73 = .ok (.i2l, 1) := by decide +kernel
theorem dX1_begin_74 : decode cX1_begin 74 = .ok (.invokevirtual 54, 3) := by decide +kernel
theorem dX1_begin_77 : decode cX1_begin 77 = .ok (.aload_n 0, 1) := by decide +kernel
theorem dX1_begin_78 : decode cX1_begin 78 = .ok (.getfield 12, 3) := by decide +kernel
theorem dX1_begin_81 : decode cX1_begin 81 = .ok (.bipush 16, 2) := by decide +kernel
theorem dX1_begin_83 : decode cX1_begin 83 = .ok (.aload_n 1, 1) := by decide +kernel
theorem dX1_begin_84 : decode cX1_begin 84 = .ok (.getfield 60, 3) := by decide +kernel
theorem dX1_begin_87 : decode cX1_begin 87 = .ok (.i2l, 1) := by decide +kernel
theorem dX1_begin_88 : decode cX1_begin 88 = .ok (.invokevirtual 54, 3) := by decide +kernel
theorem dX1_begin_91 : decode cX1_begin 91 = .ok (.aload_n 0, 1) := by decide +kernel
theorem dX1_begin_92 : decode cX1_begin 92 = .ok (.getfield 12, 3) := by decide +kernel
theorem dX1_begin_95 : decode cX1_begin 95 = .ok (.bipush 48, 2) := by decide +kernel
theorem dX1_begin_97 : decode cX1_begin 97 = .ok (.invokevirtual 63, 3) := by decide +kernel
theorem dX1_begin_100 : decode cX1_begin 100 = .ok (.aload_n 0, 1) := by decide +kernel
theorem dX1_begin_101 : decode cX1_begin 101 = .ok (.getfield 12, 3) := by decide +kernel
theorem dX1_begin_104 : decode cX1_begin 104 = .ok (.bipush 20, 2) := by decide +kernel
theorem dX1_begin_106 : decode cX1_begin 106 = .ok (.aload_n 1, 1) := by decide +kernel
theorem dX1_begin_107 : decode cX1_begin 107 = .ok (.getfield 67, 3) := by decide +kernel
theorem dX1_begin_110 : decode cX1_begin 110 = .ok (.i2l, 1) := by decide +kernel
theorem dX1_begin_111 : decode cX1_begin 111 = .ok (.invokevirtual 54, 3) := by decide +kernel
theorem dX1_begin_114 : decode cX1_begin 114 = .ok (.aload_n 0, 1) := by decide +kernel
theorem dX1_begin_115 : decode cX1_begin 115 = .ok (.getfield 12, 3) := by decide +kernel
theorem dX1_begin_118 : decode cX1_begin 118 = .ok (.iconst 3, 1) := by decide +kernel
theorem dX1_begin_119 : decode cX1_begin 119 = .ok (.aload_n 0, 1) := by decide +kernel
theorem dX1_begin_120 : decode cX1_begin 120 = .ok (.getfield 22, 3) := by decide +kernel
theorem dX1_begin_123 : decode cX1_begin 123 = .ok (.iconst 1, 1) := by decide +kernel
theorem dX1_begin_124 : decode cX1_begin 124 = .ok (.isub, 1) := by decide +kernel
theorem dX1_begin_125 : decode cX1_begin 125 = .ok (.i2l, 1) := by decide +kernel
theorem dX1_begin_126 : decode cX1_begin 126 = .ok (.invokevirtual 54, 3) := by decide +kernel
theorem dX1_begin_129 : decode cX1_begin 129 = .ok (.aload_n 0, 1) := by decide +kernel
theorem dX1_begin_130 : decode cX1_begin 130 = .ok (.getfield 12, 3) := by decide +kernel
theorem dX1_begin_133 : decode cX1_begin 133 = .ok (.iconst 5, 1) := by decide +kernel
theorem dX1_begin_134 : decode cX1_begin 134 = .ok (.aload_n 1, 1) := by decide +kernel
theorem dX1_begin_135 : decode cX1_begin 135 = .ok (.getfield 70, 3) := by decide +kernel
theorem dX1_begin_138 : decode cX1_begin 138 = .ok (.iconst 1, 1) := by decide +kernel
theorem dX1_begin_139 : decode cX1_begin 139 = .ok (.isub, 1) := by decide +kernel
theorem dX1_begin_140 : decode cX1_begin 140 = .ok (.i2l, 1) := by decide +kernel
theorem dX1_begin_141 : decode cX1_begin 141 = .ok (.invokevirtual 54, 3) := by decide +kernel
theorem dX1_begin_144 : decode cX1_begin 144 = .ok (.aload_n 0, 1) := by decide +kernel
theorem dX1_begin_145 : decode cX1_begin 145 = .ok (.getfield 12, 3) := by decide +kernel
theorem dX1_begin_148 : decode cX1_begin 148 = .ok (.bipush 36, 2) := by decide +kernel
theorem dX1_begin_150 : decode cX1_begin 150 = .ok (.iload_n 2, 1) := by decide +kernel
theorem dX1_begin_151 : decode cX1_begin 151 = .ok (.i2l, 1) := by decide +kernel
theorem dX1_begin_152 : decode cX1_begin 152 = .ok (.invokevirtual 54, 3) := by decide +kernel
theorem dX1_begin_155 : decode cX1_begin 155 = .ok (.aload_n 0, 1) := by decide +kernel
theorem dX1_begin_156 : decode cX1_begin 156 = .ok (.getfield 12, 3) := by decide +kernel
theorem dX1_begin_159 : decode cX1_begin 159 = .ok (.sipush 128, 3) := by decide +kernel
theorem dX1_begin_162 : decode cX1_begin 162 = .ok (.invokevirtual 63, 3) := by decide +kernel
theorem dX1_begin_165 : decode cX1_begin 165 = .ok (.return_, 1) := by decide +kernel
theorem dX1_addFrame_0 : decode cX1_addFrame 0 = .ok (.iconst 0, 1) := by decide +kernel
theorem dX1_addFrame_1 : decode cX1_addFrame 1 = .ok (.istore 6, 2) := by decide +kernel
theorem dX1_addFrame_3 : decode cX1_addFrame 3 = .ok (.iload 6, 2) := by decide +kernel
theorem dX1_addFrame_5 : decode cX1_addFrame 5 = .ok (.aload_n 0, 1) := by decide +kernel
theorem dX1_addFrame_6 : decode cX1_addFrame 6 = .ok (.getfield 22, 3) := by decide +kernel
theorem dX1_addFrame_9 : decode cX1_addFrame 9 = .ok (.if_icmp .ge 64, 3) := by decide +kernel
theorem dX1_addFrame_12 : decode cX1_addFrame 12 = .ok (.aload_n 0, 1) := by decide +kernel
theorem dX1_addFrame_13 : decode cX1_addFrame 13 = .ok (.getfield 41, 3) := by decide +kernel
theorem dX1_addFrame_16 : decode cX1_addFrame 16 = .ok (.iload 6, 2) := by decide +kernel
theorem dX1_addFrame_18 : decode cX1_addFrame 18 = .ok (.aaload, 1) := by decide +kernel
theorem dX1_addFrame_19 : decode cX1_addFrame 19 = .ok (.iload_n 3, 1) := by decide +kernel
theorem dX1_addFrame_20 : decode cX1_addFrame 20 = .ok (.iload 4, 2) := by decide +kernel
theorem dX1_addFrame_22 : decode cX1_addFrame 22 = .ok (.invokevirtual 73, 3) := by decide +kernel
theorem dX1_addFrame_25 : decode cX1_addFrame 25 = .ok (.iconst 0, 1) := by decide +kernel
theorem dX1_addFrame_26 : decode cX1_addFrame 26 = .ok (.istore 7, 2) := by decide +kernel
theorem dX1_addFrame_28 : decode cX1_addFrame 28 = .ok (.iload 7, 2) := by decide +kernel
theorem dX1_addFrame_30 : decode cX1_addFrame 30 = .ok (.iload_n 3, 1) := by decide +kernel
theorem dX1_addFrame_31 : decode cX1_addFrame 31 = .ok (.if_icmp .ge 36, 3) := by decide +kernel
theorem dX1_addFrame_34 : decode cX1_addFrame 34 = .ok (.aload_n 0, 1) := by decide +kernel
theorem dX1_addFrame_35 : decode cX1_addFrame 35 = .ok (.getfield 41, 3) := by decide +kernel
theorem dX1_addFrame_38 : decode cX1_addFrame 38 = .ok (.iload 6, 2) := by decide +kernel
theorem dX1_addFrame_40 : decode cX1_addFrame 40 = .ok (.aaload, 1) := by decide +kernel
theorem dX1_addFrame_41 : decode cX1_addFrame 41 = .ok (.getfield 77, 3) := by decide +kernel
theorem dX1_addFrame_44 : decode cX1_addFrame 44 = .ok (.iload 7, 2) := by decide +kernel
theorem dX1_addFrame_46 : decode cX1_addFrame 46 = .ok (.aload_n 1, 1) := by decide +kernel
theorem dX1_addFrame_47 : decode cX1_addFrame 47 = .ok (.iload_n 2, 1) := by decide +kernel
theorem dX1_addFrame_48 : decode cX1_addFrame 48 = .ok (.iload 7, 2) := by decide +kernel
theorem dX1_addFrame_50 : decode cX1_addFrame 50 = .ok (.iadd, 1) := by decide +kernel
theorem dX1_addFrame_51 : decode cX1_addFrame 51 = .ok (.aload_n 0, 1) := by decide +kernel
theorem dX1_addFrame_52 : decode cX1_addFrame 52 = .ok (.getfield 22, 3) := by decide +kernel
theorem dX1_addFrame_55 : decode cX1_addFrame 55 = .ok (.imul, 1) := by decide +kernel
theorem dX1_addFrame_56 : decode cX1_addFrame 56 = .ok (.iload 6, 2) := by decide +kernel
theorem dX1_addFrame_58 : decode cX1_addFrame 58 = .ok (.iadd, 1) := by decide +kernel
theorem dX1_addFrame_59 : decode cX1_addFrame 59 = .ok (.iaload, 1) := by decide +kernel
theorem dX1_addFrame_60 : decode cX1_addFrame 60 = .ok (.iastore, 1) := by decide +kernel
theorem dX1_addFrame_61 : decode cX1_addFrame 61 = .ok (.iinc 7 1, 3) := by decide +kernel
theorem dX1_addFrame_64 : decode cX1_addFrame 64 = .ok (.goto (-36), 3) := by decide +kernel
theorem dX1_addFrame_67 : decode cX1_addFrame 67 = .ok (.iinc 6 1, 3) := by decide +kernel
theorem dX1_addFrame_70 : decode cX1_addFrame 70 = .ok (.goto (-67), 3) := by decide +kernel
theorem dX1_addFrame_73 : decode cX1_addFrame 73 = .ok (.aload_n 0, 1) := by decide +kernel
theorem dX1_addFrame_74 : decode cX1_addFrame 74 = .ok (.getfield 22, 3) := by decide +kernel
theorem dX1_addFrame_77 : decode cX1_addFrame 77 = .ok (.iconst 2, 1) := by decide +kernel
theorem dX1_addFrame_78 : decode cX1_addFrame 78 = .ok (.if_icmp .ne 10, 3) := by decide +kernel
theorem dX1_addFrame_81 : decode cX1_addFrame 81 = .ok (.aload_n 0, 1) := by decide +kernel
theorem dX1_addFrame_82 : decode cX1_addFrame 82 = .ok (.iload_n 3, 1) := by decide +kernel
theorem dX1_addFrame_83 : decode cX1_addFrame 83 = .ok (.iload 4, 2) := by decide +kernel
theorem dX1_addFrame_85 : decode cX1_addFrame 85 = .ok (.invokevirtual 80, 3) := by decide +kernel
theorem dX1_addFrame_88 : decode cX1_addFrame 88 = .ok (.iconst 0, 1) := by decide +kernel
theorem dX1_addFrame_89 : decode cX1_addFrame 89 = .ok (.istore 6, 2) := by decide +kernel
theorem dX1_addFrame_91 : decode cX1_addFrame 91 = .ok (.iload 6, 2) := by decide +kernel
theorem dX1_addFrame_93 : decode cX1_addFrame 93 = .ok (.aload_n 0, 1) := by decide +kernel
theorem dX1_addFrame_94 : decode cX1_addFrame 94 = .ok (.getfield 22, 3) := by decide +kernel
theorem dX1_addFrame_97 : decode cX1_addFrame 97 = .ok (.iconst 2, 1) := by decide +kernel
theorem dX1_addFrame_98 : decode cX1_addFrame 98 = .ok (.if_icmp .ne 7, 3) := by decide +kernel
theorem dX1_addFrame_101 : decode cX1_addFrame 101 = .ok (.iconst 4, 1) := by decide +kernel
theorem dX1_addFrame_102 : decode cX1_addFrame 102 = .ok (.goto 7, 3) := by decide +kernel
theorem dX1_addFrame_105 : decode cX1_addFrame 105 = .ok (.aload_n 0, 1) := by decide +kernel
theorem dX1_addFrame_106 : decode cX1_addFrame 106 = .ok (.getfield 22, 3) := by decide +kernel
theorem dX1_addFrame_109 : decode cX1_addFrame 109 = .ok (.if_icmp .ge 25, 3) := by decide +kernel
theorem dX1_addFrame_112 : decode cX1_addFrame 112 = .ok (.aload_n 0, 1) := by decide +kernel
theorem dX1_addFrame_113 : decode cX1_addFrame 113 = .ok (.getfield 35, 3) := by decide +kernel
theorem dX1_addFrame_116 : decode cX1_addFrame 116 = .ok (.aload_n 0, 1) := by decide +kernel
theorem dX1_addFrame_117 : decode cX1_addFrame 117 = .ok (.getfield 41, 3) := by decide +kernel
theorem dX1_addFrame_120 : decode cX1_addFrame 120 = .ok (.iload 6, 2) := by decide +kernel
theorem dX1_addFrame_122 : decode cX1_addFrame 122 = .ok (.aaload, 1) := by decide +kernel
theorem dX1_addFrame_123 : decode cX1_addFrame 123 = .ok (.aload 5, 2) := by decide +kernel
theorem dX1_addFrame_125 : decode cX1_addFrame 125 = .ok (.invokevirtual 83, 3) := by decide +kernel
theorem dX1_addFrame_128 : decode cX1_addFrame 128 = .ok (.iinc 6 1, 3) := by decide +kernel
theorem dX1_addFrame_131 : decode cX1_addFrame 131 = .ok (.goto (-40), 3) := by decide +kernel
theorem dX1_addFrame_134 : decode cX1_addFrame 134 = .ok (.aload_n 0, 1) := by decide +kernel
theorem dX1_addFrame_135 : decode cX1_addFrame 135 = .ok (.getfield 22, 3) := by decide +kernel
theorem dX1_addFrame_138 : decode cX1_addFrame 138 = .ok (.iconst 2, 1) := by decide +kernel
theorem dX1_addFrame_139 : decode cX1_addFrame 139 = .ok (.if_icmp .ne 10, 3) := by decide +kernel
theorem dX1_addFrame_142 : decode cX1_addFrame 142 = .ok (.aload_n 0, 1) := by decide +kernel
theorem dX1_addFrame_143 : decode cX1_addFrame 143 = .ok (.invokevirtual 87, 3) := by decide +kernel
theorem dX1_addFrame_146 : decode cX1_addFrame 146 = .ok (.goto 9, 3) := by decide +kernel
theorem dX1_addFrame_149 : decode cX1_addFrame 149 = .ok (.aload_n 0, 1) := by decide +kernel
theorem dX1_addFrame_150 : decode cX1_addFrame 150 = .ok (.getfield 22, 3) := by decide +kernel
theorem dX1_addFrame_153 : decode cX1_addFrame 153 = .ok (.iconst 1, 1) := by decide +kernel
theorem dX1_addFrame_154 : decode cX1_addFrame 154 = .ok (.isub, 1) := by decide +kernel
theorem dX1_addFrame_155 : decode cX1_addFrame 155 = .ok (.istore 6, 2) := by decide +kernel
theorem dX1_addFrame_157 : decode cX1_addFrame 157 = .ok (.aload_n 0, 1) := by decide +kernel
theorem dX1_addFrame_158 : decode cX1_addFrame 158 = .ok (.getfield 12, 3) := by decide +kernel
theorem dX1_addFrame_161 : decode cX1_addFrame 161 = .ok (.invokevirtual 91, 3) := by decide +kernel
theorem dX1_addFrame_164 : decode cX1_addFrame 164 = .ok (.istore 7, 2) := by decide +kernel
theorem dX1_addFrame_166 : decode cX1_addFrame 166 = .ok (.aload_n 0, 1) := by decide +kernel
theorem dX1_addFrame_167 : decode cX1_addFrame 167 = .ok (.iload 6, 2) := by decide +kernel
theorem dX1_addFrame_169 : decode cX1_addFrame 169 = .ok (.iload_n 3, 1) := by decide +kernel
theorem dX1_addFrame_170 : decode cX1_addFrame 170 = .ok (.invokevirtual 94, 3) := by decide +kernel
theorem dX1_addFrame_173 : decode cX1_addFrame 173 = .ok (.aload_n 0, 1) := by decide +kernel
theorem dX1_addFrame_174 : decode cX1_addFrame 174 = .ok (.getfield 12, 3) := by decide +kernel
theorem dX1_addFrame_177 : decode cX1_addFrame 177 = .ok (.bipush 8, 2) := by decide +kernel
theorem dX1_addFrame_179 : decode cX1_addFrame 179 = .ok (.aload_n 0, 1) := by decide +kernel
theorem dX1_addFrame_180 : decode cX1_addFrame 180 = .ok (.getfield 12, 3) := by decide +kernel
theorem dX1_addFrame_183 : decode cX1_addFrame 183 = .ok (.getfield 97, 3) := by decide +kernel
theorem dX1_addFrame_186 : decode cX1_addFrame 186 = .ok (.iload 7, 2) := by decide +kernel
theorem dX1_addFrame_188 : decode cX1_addFrame 188 = .ok (.aload_n 0, 1) := by decide +kernel
theorem dX1_addFrame_189 : decode cX1_addFrame 189 = .ok (.getfield 12, 3) := by decide +kernel
theorem dX1_addFrame_192 : decode cX1_addFrame 192 = .ok (.invokevirtual 91, 3) := by decide +kernel
theorem dX1_addFrame_195 : decode cX1_addFrame 195 = .ok (.bipush 8, 2) := by decide +kernel
theorem dX1_addFrame_197 : decode cX1_addFrame 197 = .ok (.bipush 7, 2) := by decide +kernel
theorem dX1_addFrame_199 : decode cX1_addFrame 199 = .ok (.invokestatic 101, 3) := by decide +kernel
theorem dX1_addFrame_202 : decode cX1_addFrame 202 = .ok (.i2l, 1) := by decide +kernel
theorem dX1_addFrame_203 : decode cX1_addFrame 203 = .ok (.invokevirtual 54, 3) := by decide +kernel
theorem dX1_addFrame_206 : decode cX1_addFrame 206 = .ok (.iconst 0, 1) := by decide +kernel
theorem dX1_addFrame_207 : decode cX1_addFrame 207 = .ok (.istore 8, 2) := by decide +kernel
theorem dX1_addFrame_209 : decode cX1_addFrame 209 = .ok (.iload 8, 2) := by decide +kernel
theorem dX1_addFrame_211 : decode cX1_addFrame 211 = .ok (.aload_n 0, 1) := by decide +kernel
theorem dX1_addFrame_212 : decode cX1_addFrame 212 = .ok (.getfield 22, 3) := by decide +kernel
theorem dX1_addFrame_215 : decode cX1_addFrame 215 = .ok (.if_icmp .ge 46, 3) := by decide +kernel
theorem dX1_addFrame_218 : decode cX1_addFrame 218 = .ok (.aload_n 0, 1) := by decide +kernel
theorem dX1_addFrame_219 : decode cX1_addFrame 219 = .ok (.getfield 41, 3) := by decide +kernel
theorem dX1_addFrame_222 : decode cX1_addFrame 222 = .ok (.iload 6, 2) := by decide +kernel
theorem dX1_addFrame_224 : decode cX1_addFrame 224 = .ok (.iload 8, 2) := by decide +kernel
theorem dX1_addFrame_226 : decode cX1_addFrame 226 = .ok (.invokestatic 105, 3) := by decide +kernel
theorem dX1_addFrame_229 : decode cX1_addFrame 229 = .ok (.aaload, 1) := by decide +kernel
theorem dX1_addFrame_230 : decode cX1_addFrame 230 = .ok (.astore 9, 2) := by decide +kernel
theorem dX1_addFrame_232 : decode cX1_addFrame 232 = .ok (.aload_n 0, 1) := by decide +kernel
theorem dX1_addFrame_233 : decode cX1_addFrame 233 = .ok (.getfield 35, 3) := by decide +kernel
theorem dX1_addFrame_236 : decode cX1_addFrame 236 = .ok (.aload 9, 2) := by decide +kernel
theorem dX1_addFrame_238 : decode cX1_addFrame 238 = .ok (.aload 5, 2) := by decide +kernel
theorem dX1_addFrame_240 : decode cX1_addFrame 240 = .ok (.aload_n 0, 1) := by decide +kernel
theorem dX1_addFrame_241 : decode cX1_addFrame 241 = .ok (.getfield 12, 3) := by decide +kernel
theorem dX1_addFrame_244 : decode cX1_addFrame 244 = .ok (.invokevirtual 109, 3) := by decide +kernel
theorem dX1_addFrame_247 : decode cX1_addFrame 247 = .ok (.aload_n 0, 1) := by decide +kernel
theorem dX1_addFrame_248 : decode cX1_addFrame 248 = .ok (.aload 9, 2) := by decide +kernel
theorem dX1_addFrame_250 : decode cX1_addFrame 250 = .ok (.iload 8, 2) := by decide +kernel
theorem dX1_addFrame_252 : decode cX1_addFrame 252 = .ok (.invokevirtual 113, 3) := by decide +kernel
theorem dX1_addFrame_255 : decode cX1_addFrame 255 = .ok (.iinc 8 1, 3) := by decide +kernel
theorem dX1_addFrame_258 : decode cX1_addFrame 258 = .ok (.goto (-49), 3) := by decide +kernel
theorem dX1_addFrame_261 : decode cX1_addFrame 261 = .ok (.aload_n 0, 1) := by decide +kernel
theorem dX1_addFrame_262 : decode cX1_addFrame 262 = .ok (.getfield 12, 3) := by decide +kernel
theorem dX1_addFrame_265 : decode cX1_addFrame 265 = .ok (.invokevirtual 117, 3) := by decide +kernel
theorem dX1_addFrame_268 : decode cX1_addFrame 268 = .ok (.aload_n 0, 1) := by decide +kernel
theorem dX1_addFrame_269 : decode cX1_addFrame 269 = .ok (.getfield 12, 3) := by decide +kernel
theorem dX1_addFrame_272 : decode cX1_addFrame 272 = .ok (.bipush 16, 2) := by decide +kernel
theorem dX1_addFrame_274 : decode cX1_addFrame 274 = .ok (.aload_n 0, 1) := by decide +kernel
theorem dX1_addFrame_275 : decode cX1_addFrame 275 = .ok (.getfield 12, 3) := by decide +kernel
theorem dX1_addFrame_278 : decode cX1_addFrame 278 = .ok (.getfield 97, 3) := by decide +kernel
theorem dX1_addFrame_281 : decode cX1_addFrame 281 = .ok (.iload 7, 2) := by decide +kernel
theorem dX1_addFrame_283 : decode cX1_addFrame 283 = .ok (.aload_n 0, 1) := by decide +kernel
theorem dX1_addFrame_284 : decode cX1_addFrame 284 = .ok (.getfield 12, 3) := by decide +kernel
theorem dX1_addFrame_287 : decode cX1_addFrame 287 = .ok (.invokevirtual 91, 3) := by decide +kernel
theorem dX1_addFrame_290 : decode cX1_addFrame 290 = .ok (.bipush 16, 2) := by decide +kernel
theorem dX1_addFrame_292 : decode cX1_addFrame 292 = .ok (.ldc 120, 2) := by decide +kernel
theorem dX1_addFrame_294 : decode cX1_addFrame 294 = .ok (.invokestatic 101, 3) := by decide +kernel
theorem dX1_addFrame_297 : decode cX1_addFrame 297 = .ok (.i2l, 1) := by decide +kernel
theorem dX1_addFrame_298 : decode cX1_addFrame 298 = .ok (.invokevirtual 54, 3) := by decide +kernel
theorem dX1_addFrame_301 : decode cX1_addFrame 301 = .ok (.aload_n 0, 1) := by decide +kernel
theorem dX1_addFrame_302 : decode cX1_addFrame 302 = .ok (.getfield 25, 3) := by decide +kernel
theorem dX1_addFrame_305 : decode cX1_addFrame 305 = .ok (.aload_n 0, 1) := by decide +kernel
theorem dX1_addFrame_306 : decode cX1_addFrame 306 = .ok (.getfield 18, 3) := by decide +kernel
theorem dX1_addFrame_309 : decode cX1_addFrame 309 = .ok (.iload 6, 2) := by decide +kernel
theorem dX1_addFrame_311 : decode cX1_addFrame 311 = .ok (.iastore, 1) := by decide +kernel
theorem dX1_addFrame_312 : decode cX1_addFrame 312 = .ok (.aload_n 0, 1) := by decide +kernel
theorem dX1_addFrame_313 : decode cX1_addFrame 313 = .ok (.dup, 1) := by decide +kernel
theorem dX1_addFrame_314 : decode cX1_addFrame 314 = .ok (.getfield 18, 3) := by decide +kernel
theorem dX1_addFrame_317 : decode cX1_addFrame 317 = .ok (.iconst 1, 1) := by decide +kernel
theorem dX1_addFrame_318 : decode cX1_addFrame 318 = .ok (.iadd, 1) := by decide +kernel
theorem dX1_addFrame_319 : decode cX1_addFrame 319 = .ok (.putfield 18, 3) := by decide +kernel
theorem dX1_addFrame_322 : decode cX1_addFrame 322 = .ok (.return_, 1) := by decide +kernel
theorem dX1_fillSideAndMiddle_0 : decode cX1_fillSideAndMiddle 0 = .ok (.aload_n 0, 1) := by decide +kernel
theorem dX1_fillSideAndMiddle_1 : decode cX1_fillSideAndMiddle 1 = .ok (.getfield 41, 3) := by decide +kernel
theorem dX1_fillSideAndMiddle_4 : decode cX1_fillSideAndMiddle 4 = .ok (.iconst 2, 1) := by decide +kernel
theorem dX1_fillSideAndMiddle_5 : decode cX1_fillSideAndMiddle 5 = .ok (.aaload, 1) := by decide +kernel
theorem dX1_fillSideAndMiddle_6 : decode cX1_fillSideAndMiddle 6 = .ok (.iload_n 1, 1) := by decide +kernel
theorem dX1_fillSideAndMiddle_7 : decode cX1_fillSideAndMiddle 7 = .ok (.iload_n 2, 1) := by decide +kernel
theorem dX1_fillSideAndMiddle_8 : decode cX1_fillSideAndMiddle 8 = .ok (.iconst 1, 1) := by decide +kernel
theorem dX1_fillSideAndMiddle_9 : decode cX1_fillSideAndMiddle 9 = .ok (.iadd, 1) := by decide +kernel
theorem dX1_fillSideAndMiddle_10 : decode cX1_fillSideAndMiddle 10 = .ok (.invokevirtual 73, 3) := by decide +kernel
theorem dX1_fillSideAndMiddle_13 : decode cX1_fillSideAndMiddle 13 = .ok (.aload_n 0, 1) := by decide +kernel
theorem dX1_fillSideAndMiddle_14 : decode cX1_fillSideAndMiddle 14 = .ok (.getfield 41, 3) := by decide +kernel
theorem dX1_fillSideAndMiddle_17 : decode cX1_fillSideAndMiddle 17 = .ok (.iconst 3, 1) := by decide +kernel
theorem dX1_fillSideAndMiddle_18 : decode cX1_fillSideAndMiddle 18 = .ok (.aaload, 1) := by decide +kernel
theorem dX1_fillSideAndMiddle_19 : decode cX1_fillSideAndMiddle 19 = .ok (.iload_n 1, 1) := by decide +kernel
theorem dX1_fillSideAndMiddle_20 : decode cX1_fillSideAndMiddle 20 = .ok (.iload_n 2, 1) := by decide +kernel
theorem dX1_fillSideAndMiddle_21 : decode cX1_fillSideAndMiddle 21 = .ok (.invokevirtual 73, 3) := by decide +kernel
theorem dX1_fillSideAndMiddle_24 : decode cX1_fillSideAndMiddle 24 = .ok (.iconst 0, 1) := by decide +kernel
theorem dX1_fillSideAndMiddle_25 : decode cX1_fillSideAndMiddle 25 = .ok (.istore_n 3, 1) := by decide +kernel
theorem dX1_fillSideAndMiddle_26 : decode cX1_fillSideAndMiddle 26 = .ok (.iload_n 3, 1) := by decide +kernel
theorem dX1_fillSideAndMiddle_27 : decode cX1_fillSideAndMiddle 27 = .ok (.iload_n 1, 1) := by decide +kernel
theorem dX1_fillSideAndMiddle_28 : decode cX1_fillSideAndMiddle 28 = .ok (.if_icmp .ge 69, 3) := by decide +kernel
theorem dX1_fillSideAndMiddle_31 : decode cX1_fillSideAndMiddle 31 = .ok (.aload_n 0, 1) := by decide +kernel
theorem dX1_fillSideAndMiddle_32 : decode cX1_fillSideAndMiddle 32 = .ok (.getfield 41, 3) := by decide +kernel
theorem dX1_fillSideAndMiddle_35 : decode cX1_fillSideAndMiddle 35 = .ok (.iconst 0, 1) := by decide +kernel
theorem dX1_fillSideAndMiddle_36 : decode cX1_fillSideAndMiddle 36 = .ok (.aaload, 1) := by decide +kernel
theorem dX1_fillSideAndMiddle_37 : decode cX1_fillSideAndMiddle 37 = .ok (.getfield 77, 3) := by decide +kernel
theorem dX1_fillSideAndMiddle_40 : decode cX1_fillSideAndMiddle 40 = .ok (.iload_n 3, 1) := by decide +kernel
theorem dX1_fillSideAndMiddle_41 : decode cX1_fillSideAndMiddle 41 = .ok (.iaload, 1) := by decide +kernel
theorem dX1_fillSideAndMiddle_42 : decode cX1_fillSideAndMiddle 42 = .ok (.istore 4, 2) := by decide +kernel
theorem dX1_fillSideAndMiddle_44 : decode cX1_fillSideAndMiddle 44 = .ok (.aload_n 0, 1) := by decide +kernel
theorem dX1_fillSideAndMiddle_45 : decode cX1_fillSideAndMiddle 45 = .ok (.getfield 41, 3) := by decide +kernel
theorem dX1_fillSideAndMiddle_48 : decode cX1_fillSideAndMiddle 48 = .ok (.iconst 1, 1) := by decide +kernel
theorem dX1_fillSideAndMiddle_49 : decode cX1_fillSideAndMiddle 49 = .ok (.aaload, 1) := by decide +kernel
theorem dX1_fillSideAndMiddle_50 : decode cX1_fillSideAndMiddle 50 = .ok (.getfield 77, 3) := by decide +kernel
theorem dX1_fillSideAndMiddle_53 : decode cX1_fillSideAndMiddle 53 = .ok (.iload_n 3, 1) := by decide +kernel
theorem dX1_fillSideAndMiddle_54 : decode cX1_fillSideAndMiddle 54 = .ok (.iaload, 1) := by decide +kernel
theorem dX1_fillSideAndMiddle_55 : decode cX1_fillSideAndMiddle 55 = .ok (.istore 5, 2) := by decide +kernel
theorem dX1_fillSideAndMiddle_57 : decode cX1_fillSideAndMiddle 57 = .ok (.aload_n 0, 1) := by decide +kernel
theorem dX1_fillSideAndMiddle_58 : decode cX1_fillSideAndMiddle 58 = .ok (.getfield 41, 3) := by decide +kernel
theorem dX1_fillSideAndMiddle_61 : decode cX1_fillSideAndMiddle 61 = .ok (.iconst 2, 1) := by decide +kernel
theorem dX1_fillSideAndMiddle_62 : decode cX1_fillSideAndMiddle 62 = .ok (.aaload, 1) := by decide +kernel
theorem dX1_fillSideAndMiddle_63 : decode cX1_fillSideAndMiddle 63 = .ok (.getfield 77, 3) := by decide +kernel
theorem dX1_fillSideAndMiddle_66 : decode cX1_fillSideAndMiddle 66 = .ok (.iload_n 3, 1) := by decide +kernel
theorem dX1_fillSideAndMiddle_67 : decode cX1_fillSideAndMiddle 67 = .ok (.iload 4, 2) := by decide +kernel
theorem dX1_fillSideAndMiddle_69 : decode cX1_fillSideAndMiddle 69 = .ok (.iload 5, 2) := by decide +kernel
theorem dX1_fillSideAndMiddle_71 : decode cX1_fillSideAndMiddle 71 = .ok (.isub, 1) := by decide +kernel
theorem dX1_fillSideAndMiddle_72 : decode cX1_fillSideAndMiddle 72 = .ok (.iastore, 1) := by decide +kernel
theorem dX1_fillSideAndMiddle_73 : decode cX1_fillSideAndMiddle 73 = .ok (.aload_n 0, 1) := by decide +kernel
theorem dX1_fillSideAndMiddle_74 : decode cX1_fillSideAndMiddle 74 = .ok (.getfield 41, 3) := by decide +kernel
theorem dX1_fillSideAndMiddle_77 : decode cX1_fillSideAndMiddle 77 = .ok (.iconst 3, 1) := by decide +kernel
theorem dX1_fillSideAndMiddle_78 : decode cX1_fillSideAndMiddle 78 = .ok (.aaload, 1) := by decide +kernel
theorem dX1_fillSideAndMiddle_79 : decode cX1_fillSideAndMiddle 79 = .ok (.getfield 77, 3) := by decide +kernel
theorem dX1_fillSideAndMiddle_82 : decode cX1_fillSideAndMiddle 82 = .ok (.iload_n 3, 1) := by decide +kernel
theorem dX1_fillSideAndMiddle_83 : decode cX1_fillSideAndMiddle 83 = .ok (.iload 4, 2) := by decide +kernel
theorem dX1_fillSideAndMiddle_85 : decode cX1_fillSideAndMiddle 85 = .ok (.iload 5, 2) := by decide +kernel
theorem dX1_fillSideAndMiddle_87 : decode cX1_fillSideAndMiddle 87 = .ok (.iadd, 1) := by decide +kernel
theorem dX1_fillSideAndMiddle_88 : decode cX1_fillSideAndMiddle 88 = .ok (.iconst 1, 1) := by decide +kernel
theorem dX1_fillSideAndMiddle_89 : decode cX1_fillSideAndMiddle 89 = .ok (.ishr, 1) := by decide +kernel
theorem dX1_fillSideAndMiddle_90 : decode cX1_fillSideAndMiddle 90 = .ok (.iastore, 1) := by decide +kernel
theorem dX1_fillSideAndMiddle_91 : decode cX1_fillSideAndMiddle 91 = .ok (.iinc 3 1, 3) := by decide +kernel
theorem dX1_fillSideAndMiddle_94 : decode cX1_fillSideAndMiddle 94 = .ok (.goto (-68), 3) := by decide +kernel
theorem dX1_fillSideAndMiddle_97 : decode cX1_fillSideAndMiddle 97 = .ok (.return_, 1) := by decide +kernel
theorem dX1_shortestAssignment_0 : decode cX1_shortestAssignment 0 = .ok (.iconst 1, 1) := by decide +kernel
theorem dX1_shortestAssignment_1 : decode cX1_shortestAssignment 1 = .ok (.istore_n 1, 1) := by decide +kernel
theorem dX1_shortestAssignment_2 : decode cX1_shortestAssignment 2 = .ok (.bipush 8, 2) := by decide +kernel
theorem dX1_shortestAssignment_4 : decode cX1_shortestAssignment 4 = .ok (.istore_n 2, 1) := by decide +kernel
theorem dX1_shortestAssignment_5 : decode cX1_shortestAssignment 5 = .ok (.iload_n 2, 1) := by decide +kernel
theorem dX1_shortestAssignment_6 : decode cX1_shortestAssignment 6 = .ok (.bipush 10, 2) := by decide +kernel
theorem dX1_shortestAssignment_8 : decode cX1_shortestAssignment 8 = .ok (.if_icmp .gt 25, 3) := by decide +kernel
theorem dX1_shortestAssignment_11 : decode cX1_shortestAssignment 11 = .ok (.aload_n 0, 1) := by decide +kernel
theorem dX1_shortestAssignment_12 : decode cX1_shortestAssignment 12 = .ok (.iload_n 2, 1) := by decide +kernel
theorem dX1_shortestAssignment_13 : decode cX1_shortestAssignment 13 = .ok (.invokevirtual 121, 3) := by decide +kernel
theorem dX1_shortestAssignment_16 : decode cX1_shortestAssignment 16 = .ok (.aload_n 0, 1) := by decide +kernel
theorem dX1_shortestAssignment_17 : decode cX1_shortestAssignment 17 = .ok (.iload_n 1, 1) := by decide +kernel
theorem dX1_shortestAssignment_18 : decode cX1_shortestAssignment 18 = .ok (.invokevirtual 121, 3) := by decide +kernel
theorem dX1_shortestAssignment_21 : decode cX1_shortestAssignment 21 = .ok (.lcmp, 1) := by decide +kernel
theorem dX1_shortestAssignment_22 : decode cX1_shortestAssignment 22 = .ok (.ifCond .ge 5, 3) := by decide +kernel
theorem dX1_shortestAssignment_25 : decode cX1_shortestAssignment 25 = .ok (.iload_n 2, 1) := by decide +kernel
theorem dX1_shortestAssignment_26 : decode cX1_shortestAssignment 26 = .ok (.istore_n 1, 1) := by decide +kernel
theorem dX1_shortestAssignment_27 : decode cX1_shortestAssignment 27 = .ok (.iinc 2 1, 3) := by decide +kernel
theorem dX1_shortestAssignment_30 : decode cX1_shortestAssignment 30 = .ok (.goto (-25), 3) := by decide +kernel
theorem dX1_shortestAssignment_33 : decode cX1_shortestAssignment 33 = .ok (.iload_n 1, 1) := by decide +kernel
theorem dX1_shortestAssignment_34 : decode cX1_shortestAssignment 34 = .ok (.ireturn, 1) := by decide +kernel
theorem dX1_sizeOf_0 : decode cX1_sizeOf 0 = .ok (.aload_n 0, 1) := by decide +kernel
theorem dX1_sizeOf_1 : decode cX1_sizeOf 1 = .ok (.getfield 41, 3) := by decide +kernel
theorem dX1_sizeOf_4 : decode cX1_sizeOf 4 = .ok (.iload_n 1, 1) := by decide +kernel
theorem dX1_sizeOf_5 : decode cX1_sizeOf 5 = .ok (.iconst 0, 1) := by decide +kernel
theorem dX1_sizeOf_6 : decode cX1_sizeOf 6 = .ok (.invokestatic 105, 3) := by decide +kernel
theorem dX1_sizeOf_9 : decode cX1_sizeOf 9 = .ok (.aaload, 1) := by decide +kernel
theorem dX1_sizeOf_10 : decode cX1_sizeOf 10 = .ok (.getfield 125, 3) := by decide +kernel
theorem dX1_sizeOf_13 : decode cX1_sizeOf 13 = .ok (.aload_n 0, 1) := by decide +kernel
theorem dX1_sizeOf_14 : decode cX1_sizeOf 14 = .ok (.getfield 41, 3) := by decide +kernel
theorem dX1_sizeOf_17 : decode cX1_sizeOf 17 = .ok (.iload_n 1, 1) := by decide +kernel
theorem dX1_sizeOf_18 : decode cX1_sizeOf 18 = .ok (.iconst 1, 1) := by decide +kernel
theorem dX1_sizeOf_19 : decode cX1_sizeOf 19 = .ok (.invokestatic 105, 3) := by decide +kernel
theorem dX1_sizeOf_22 : decode cX1_sizeOf 22 = .ok (.aaload, 1) := by decide +kernel
theorem dX1_sizeOf_23 : decode cX1_sizeOf 23 = .ok (.getfield 125, 3) := by decide +kernel
theorem dX1_sizeOf_26 : decode cX1_sizeOf 26 = .ok (.ladd, 1) := by decide +kernel
theorem dX1_sizeOf_27 : decode cX1_sizeOf 27 = .ok (.lreturn, 1) := by decide +kernel
theorem dX1_subframeOf_0 : decode cX1_subframeOf 0 = .ok (.iload_n 0, 1) := by decide +kernel
theorem dX1_subframeOf_1 : decode cX1_subframeOf 1 = .ok (.iload_n 1, 1) := by decide +kernel
theorem dX1_subframeOf_2 : decode cX1_subframeOf 2 = .ok (.invokestatic 128, 3) := by decide +kernel
theorem dX1_subframeOf_5 : decode cX1_subframeOf 5 = .ok (.ifCond .eq 5, 3) := by decide +kernel
theorem dX1_subframeOf_8 : decode cX1_subframeOf 8 = .ok (.iconst 2, 1) := by decide +kernel
theorem dX1_subframeOf_9 : decode cX1_subframeOf 9 = .ok (.ireturn, 1) := by decide +kernel
theorem dX1_subframeOf_10 : decode cX1_subframeOf 10 = .ok (.iload_n 0, 1) := by decide +kernel
theorem dX1_subframeOf_11 : decode cX1_subframeOf 11 = .ok (.bipush 10, 2) := by decide +kernel
theorem dX1_subframeOf_13 : decode cX1_subframeOf 13 = .ok (.if_icmp .ne 7, 3) := by decide +kernel
theorem dX1_subframeOf_16 : decode cX1_subframeOf 16 = .ok (.iconst 3, 1) := by decide +kernel
theorem dX1_subframeOf_17 : decode cX1_subframeOf 17 = .ok (.goto 4, 3) := by decide +kernel
theorem dX1_subframeOf_20 : decode cX1_subframeOf 20 = .ok (.iload_n 1, 1) := by decide +kernel
theorem dX1_subframeOf_21 : decode cX1_subframeOf 21 = .ok (.ireturn, 1) := by decide +kernel
theorem dX1_writeHeader_0 : decode cX1_writeHeader 0 = .ok (.aload_n 0, 1) := by decide +kernel
theorem dX1_writeHeader_1 : decode cX1_writeHeader 1 = .ok (.getfield 12, 3) := by decide +kernel
theorem dX1_writeHeader_4 : decode cX1_writeHeader 4 = .ok (.bipush 14, 2) := by decide +kernel
theorem dX1_writeHeader_6 : decode cX1_writeHeader 6 = .ok (.ldc2_w 132, 3) := by decide +kernel
theorem dX1_writeHeader_9 : decode cX1_writeHeader 9 = .ok (.invokevirtual 54, 3) := by decide +kernel
theorem dX1_writeHeader_12 : decode cX1_writeHeader 12 = .ok (.aload_n 0, 1) := by decide +kernel
theorem dX1_writeHeader_13 : decode cX1_writeHeader 13 = .ok (.getfield 12, 3) := by decide +kernel
theorem dX1_writeHeader_16 : decode cX1_writeHeader 16 = .ok (.iconst 2, 1) := by decide +kernel
theorem dX1_writeHeader_17 : decode cX1_writeHeader 17 = .ok (.lconst 0, 1) := by decide +kernel
theorem dX1_writeHeader_18 : decode cX1_writeHeader 18 = .ok (.invokevirtual 54, 3) := by decide +kernel
theorem dX1_writeHeader_21 : decode cX1_writeHeader 21 = .ok (.aload_n 0, 1) := by decide +kernel
theorem dX1_writeHeader_22 : decode cX1_writeHeader 22 = .ok (.getfield 12, 3) := by decide +kernel
theorem dX1_writeHeader_25 : decode cX1_writeHeader 25 = .ok (.iconst 4, 1) := by decide +kernel
theorem dX1_writeHeader_26 : decode cX1_writeHeader 26 = .ok (.ldc2_w 134, 3) := by decide +kernel
theorem dX1_writeHeader_29 : decode cX1_writeHeader 29 = .ok (.invokevirtual 54, 3) := by decide +kernel
theorem dX1_writeHeader_32 : decode cX1_writeHeader 32 = .ok (.aload_n 0, 1) := by decide +kernel
theorem dX1_writeHeader_33 : decode cX1_writeHeader 33 = .ok (.getfield 12, 3) := by decide +kernel
theorem dX1_writeHeader_36 : decode cX1_writeHeader 36 = .ok (.iconst 4, 1) := by decide +kernel
theorem dX1_writeHeader_37 : decode cX1_writeHeader 37 = .ok (.lconst 0, 1) := by decide +kernel
theorem dX1_writeHeader_38 : decode cX1_writeHeader 38 = .ok (.invokevirtual 54, 3) := by decide +kernel
theorem dX1_writeHeader_41 : decode cX1_writeHeader 41 = .ok (.aload_n 0, 1) := by decide +kernel
theorem dX1_writeHeader_42 : decode cX1_writeHeader 42 = .ok (.getfield 12, 3) := by decide +kernel
theorem dX1_writeHeader_45 : decode cX1_writeHeader 45 = .ok (.iconst 4, 1) := by decide +kernel
theorem dX1_writeHeader_46 : decode cX1_writeHeader 46 = .ok (.iload_n 1, 1) := by decide +kernel
theorem dX1_writeHeader_47 : decode cX1_writeHeader 47 = .ok (.i2l, 1) := by decide +kernel
theorem dX1_writeHeader_48 : decode cX1_writeHeader 48 = .ok (.invokevirtual 54, 3) := by decide +kernel
theorem dX1_writeHeader_51 : decode cX1_writeHeader 51 = .ok (.aload_n 0, 1) := by decide +kernel
theorem dX1_writeHeader_52 : decode cX1_writeHeader 52 = .ok (.getfield 12, 3) := by decide +kernel
theorem dX1_writeHeader_55 : decode cX1_writeHeader 55 = .ok (.iconst 4, 1) := by decide +kernel
theorem dX1_writeHeader_56 : decode cX1_writeHeader 56 = .ok (.lconst 0, 1) := by decide +kernel
theorem dX1_writeHeader_57 : decode cX1_writeHeader 57 = .ok (.invokevirtual 54, 3) := by decide +kernel
theorem dX1_writeHeader_60 : decode cX1_writeHeader 60 = .ok (.aload_n 0, 1) := by decide +kernel
theorem dX1_writeHeader_61 : decode cX1_writeHeader 61 = .ok (.getfield 18, 3) := by decide +kernel
theorem dX1_writeHeader_64 : decode cX1_writeHeader 64 = .ok (.sipush 128, 3) := by decide +kernel
theorem dX1_writeHeader_67 : decode cX1_writeHeader 67 = .ok (.if_icmp .ge 20, 3) := by decide +kernel
theorem dX1_writeHeader_70 : decode cX1_writeHeader 70 = .ok (.aload_n 0, 1) := by decide +kernel
theorem dX1_writeHeader_71 : decode cX1_writeHeader 71 = .ok (.getfield 12, 3) := by decide +kernel
theorem dX1_writeHeader_74 : decode cX1_writeHeader 74 = .ok (.bipush 8, 2) := by decide +kernel
theorem dX1_writeHeader_76 : decode cX1_writeHeader 76 = .ok (.aload_n 0, 1) := by decide +kernel
theorem dX1_writeHeader_77 : decode cX1_writeHeader 77 = .ok (.getfield 18, 3) := by decide +kernel
theorem dX1_writeHeader_80 : decode cX1_writeHeader 80 = .ok (.i2l, 1) := by decide +kernel
theorem dX1_writeHeader_81 : decode cX1_writeHeader 81 = .ok (.invokevirtual 54, 3) := by decide +kernel
theorem dX1_writeHeader_84 : decode cX1_writeHeader 84 = .ok (.goto 45, 3) := by decide +kernel
theorem dX1_writeHeader_87 : decode cX1_writeHeader 87 = .ok (.aload_n 0, 1) := by decide +kernel
theorem dX1_writeHeader_88 : decode cX1_writeHeader 88 = .ok (.getfield 12, 3) := by decide +kernel
theorem dX1_writeHeader_91 : decode cX1_writeHeader 91 = .ok (.bipush 8, 2) := by decide +kernel
theorem dX1_writeHeader_93 : decode cX1_writeHeader 93 = .ok (.sipush 192, 3) := by decide +kernel
theorem dX1_writeHeader_96 : decode cX1_writeHeader 96 = .ok (.aload_n 0, 1) := by decide +kernel
theorem dX1_writeHeader_97 : decode cX1_writeHeader 97 = .ok (.getfield 18, 3) := by decide +kernel
theorem dX1_writeHeader_100 : decode cX1_writeHeader 100 = .ok (.bipush 6, 2) := by decide +kernel
theorem dX1_writeHeader_102 : decode cX1_writeHeader 102 = .ok (.ishr, 1) := by decide +kernel
theorem dX1_writeHeader_103 : decode cX1_writeHeader 103 = .ok (.iadd, 1) := by decide +kernel
theorem dX1_writeHeader_104 : decode cX1_writeHeader 104 = .ok (.i2l, 1) := by decide +kernel
theorem dX1_writeHeader_105 : decode cX1_writeHeader 105 = .ok (.invokevirtual 54, 3) := by decide +kernel
theorem dX1_writeHeader_108 : decode cX1_writeHeader 108 = .ok (.aload_n 0, 1) := by decide +kernel
theorem dX1_writeHeader_109 : decode cX1_writeHeader 109 = .ok (.getfield 12, 3) := by decide +kernel
theorem dX1_writeHeader_112 : decode cX1_writeHeader 112 = .ok (.bipush 8, 2) := by decide +kernel
theorem dX1_writeHeader_114 : decode cX1_writeHeader 114 = .ok (.sipush 128, 3) := by decide +kernel
theorem dX1_writeHeader_117 : decode cX1_writeHeader 117 = .ok (.aload_n 0, 1) := by decide +kernel
theorem dX1_writeHeader_118 : decode cX1_writeHeader 118 = .ok (.getfield 18, 3) := by decide +kernel
theorem dX1_writeHeader_121 : decode cX1_writeHeader 121 = .ok (.bipush 63, 2) := by decide +kernel
theorem dX1_writeHeader_123 : decode cX1_writeHeader 123 = .ok (.iand, 1) := by decide +kernel
theorem dX1_writeHeader_124 : decode cX1_writeHeader 124 = .ok (.iadd, 1) := by decide +kernel
theorem dX1_writeHeader_125 : decode cX1_writeHeader 125 = .ok (.i2l, 1) := by decide +kernel
theorem dX1_writeHeader_126 : decode cX1_writeHeader 126 = .ok (.invokevirtual 54, 3) := by decide +kernel
theorem dX1_writeHeader_129 : decode cX1_writeHeader 129 = .ok (.aload_n 0, 1) := by decide +kernel
theorem dX1_writeHeader_130 : decode cX1_writeHeader 130 = .ok (.getfield 12, 3) := by decide +kernel
theorem dX1_writeHeader_133 : decode cX1_writeHeader 133 = .ok (.bipush 8, 2) := by decide +kernel
theorem dX1_writeHeader_135 : decode cX1_writeHeader 135 = .ok (.iload_n 2, 1) := by decide +kernel
theorem dX1_writeHeader_136 : decode cX1_writeHeader 136 = .ok (.iconst 1, 1) := by decide +kernel
theorem dX1_writeHeader_137 : decode cX1_writeHeader 137 = .ok (.isub, 1) := by decide +kernel
theorem dX1_writeHeader_138 : decode cX1_writeHeader 138 = .ok (.i2l, 1) := by decide +kernel
theorem dX1_writeHeader_139 : decode cX1_writeHeader 139 = .ok (.invokevirtual 54, 3) := by decide +kernel
theorem dX1_writeHeader_142 : decode cX1_writeHeader 142 = .ok (.return_, 1) := by decide +kernel
theorem dX1_keepWay_0 : decode cX1_keepWay 0 = .ok (.aload_n 0, 1) := by decide +kernel
theorem dX1_keepWay_1 : decode cX1_keepWay 1 = .ok (.getfield 18, 3) := by decide +kernel
theorem dX1_keepWay_4 : decode cX1_keepWay 4 = .ok (.aload_n 0, 1) := by decide +kernel
theorem dX1_keepWay_5 : decode cX1_keepWay 5 = .ok (.getfield 22, 3) := by decide +kernel
theorem dX1_keepWay_8 : decode cX1_keepWay 8 = .ok (.imul, 1) := by decide +kernel
theorem dX1_keepWay_9 : decode cX1_keepWay 9 = .ok (.iload_n 2, 1) := by decide +kernel
theorem dX1_keepWay_10 : decode cX1_keepWay 10 = .ok (.iadd, 1) := by decide +kernel
theorem dX1_keepWay_11 : decode cX1_keepWay 11 = .ok (.iconst 4, 1) := by decide +kernel
theorem dX1_keepWay_12 : decode cX1_keepWay 12 = .ok (.imul, 1) := by decide +kernel
theorem dX1_keepWay_13 : decode cX1_keepWay 13 = .ok (.istore_n 3, 1) := by decide +kernel
theorem dX1_keepWay_14 : decode cX1_keepWay 14 = .ok (.aload_n 0, 1) := by decide +kernel
theorem dX1_keepWay_15 : decode cX1_keepWay 15 = .ok (.getfield 29, 3) := by decide +kernel
theorem dX1_keepWay_18 : decode cX1_keepWay 18 = .ok (.iload_n 3, 1) := by decide +kernel
theorem dX1_keepWay_19 : decode cX1_keepWay 19 = .ok (.aload_n 1, 1) := by decide +kernel
theorem dX1_keepWay_20 : decode cX1_keepWay 20 = .ok (.getfield 136, 3) := by decide +kernel
theorem dX1_keepWay_23 : decode cX1_keepWay 23 = .ok (.iastore, 1) := by decide +kernel
theorem dX1_keepWay_24 : decode cX1_keepWay 24 = .ok (.aload_n 0, 1) := by decide +kernel
theorem dX1_keepWay_25 : decode cX1_keepWay 25 = .ok (.getfield 29, 3) := by decide +kernel
theorem dX1_keepWay_28 : decode cX1_keepWay 28 = .ok (.iload_n 3, 1) := by decide +kernel
theorem dX1_keepWay_29 : decode cX1_keepWay 29 = .ok (.iconst 1, 1) := by decide +kernel
theorem dX1_keepWay_30 : decode cX1_keepWay 30 = .ok (.iadd, 1) := by decide +kernel
theorem dX1_keepWay_31 : decode cX1_keepWay 31 = .ok (.aload_n 1, 1) := by decide +kernel
theorem dX1_keepWay_32 : decode cX1_keepWay 32 = .ok (.getfield 139, 3) := by decide +kernel
theorem dX1_keepWay_35 : decode cX1_keepWay 35 = .ok (.iastore, 1) := by decide +kernel
theorem dX1_keepWay_36 : decode cX1_keepWay 36 = .ok (.aload_n 0, 1) := by decide +kernel
theorem dX1_keepWay_37 : decode cX1_keepWay 37 = .ok (.getfield 29, 3) := by decide +kernel
theorem dX1_keepWay_40 : decode cX1_keepWay 40 = .ok (.iload_n 3, 1) := by decide +kernel
theorem dX1_keepWay_41 : decode cX1_keepWay 41 = .ok (.iconst 2, 1) := by decide +kernel
theorem dX1_keepWay_42 : decode cX1_keepWay 42 = .ok (.iadd, 1) := by decide +kernel
theorem dX1_keepWay_43 : decode cX1_keepWay 43 = .ok (.aload_n 1, 1) := by decide +kernel
theorem dX1_keepWay_44 : decode cX1_keepWay 44 = .ok (.getfield 142, 3) := by decide +kernel
theorem dX1_keepWay_47 : decode cX1_keepWay 47 = .ok (.iastore, 1) := by decide +kernel
theorem dX1_keepWay_48 : decode cX1_keepWay 48 = .ok (.aload_n 0, 1) := by decide +kernel
theorem dX1_keepWay_49 : decode cX1_keepWay 49 = .ok (.getfield 29, 3) := by decide +kernel
theorem dX1_keepWay_52 : decode cX1_keepWay 52 = .ok (.iload_n 3, 1) := by decide +kernel
theorem dX1_keepWay_53 : decode cX1_keepWay 53 = .ok (.iconst 3, 1) := by decide +kernel
theorem dX1_keepWay_54 : decode cX1_keepWay 54 = .ok (.iadd, 1) := by decide +kernel
theorem dX1_keepWay_55 : decode cX1_keepWay 55 = .ok (.aload_n 1, 1) := by decide +kernel
theorem dX1_keepWay_56 : decode cX1_keepWay 56 = .ok (.getfield 125, 3) := by decide +kernel
theorem dX1_keepWay_59 : decode cX1_keepWay 59 = .ok (.l2i, 1) := by decide +kernel
theorem dX1_keepWay_60 : decode cX1_keepWay 60 = .ok (.iastore, 1) := by decide +kernel
theorem dX1_keepWay_61 : decode cX1_keepWay 61 = .ok (.return_, 1) := by decide +kernel
theorem dX2_init_0 : decode cX2_init 0 = .ok (.aload_n 0, 1) := by decide +kernel
theorem dX2_init_1 : decode cX2_init 1 = .ok (.invokespecial 3, 3) := by decide +kernel
theorem dX2_init_4 : decode cX2_init 4 = .ok (.aload_n 0, 1) := by decide +kernel
theorem dX2_init_5 : decode cX2_init 5 = .ok (.sipush 20000, 3) := by decide +kernel
theorem dX2_init_8 : decode cX2_init 8 = .ok (.newarray .byte, 2) := by decide +kernel
theorem dX2_init_10 : decode cX2_init 10 = .ok (.putfield 9, 3) := by decide +kernel
theorem dX2_init_13 : decode cX2_init 13 = .ok (.aload_n 0, 1) := by decide +kernel
theorem dX2_init_14 : decode cX2_init 14 = .ok (.iconst 0, 1) := by decide +kernel
theorem dX2_init_15 : decode cX2_init 15 = .ok (.putfield 15, 3) := by decide +kernel
theorem dX2_init_18 : decode cX2_init 18 = .ok (.return_, 1) := by decide +kernel
theorem dX2_size_0 : decode cX2_size 0 = .ok (.aload_n 0, 1) := by decide +kernel
theorem dX2_size_1 : decode cX2_size 1 = .ok (.getfield 15, 3) := by decide +kernel
theorem dX2_size_4 : decode cX2_size 4 = .ok (.bipush 7, 2) := by decide +kernel
theorem dX2_size_6 : decode cX2_size 6 = .ok (.iadd, 1) := by decide +kernel
theorem dX2_size_7 : decode cX2_size 7 = .ok (.iconst 3, 1) := by decide +kernel
theorem dX2_size_8 : decode cX2_size 8 = .ok (.ishr, 1) := by decide +kernel
theorem dX2_size_9 : decode cX2_size 9 = .ok (.ireturn, 1) := by decide +kernel
theorem dX2_clear_0 : decode cX2_clear 0 = .ok (.aload_n 0, 1) := by decide +kernel
theorem dX2_clear_1 : decode cX2_clear 1 = .ok (.getfield 9, 3) := by decide +kernel
theorem dX2_clear_4 : decode cX2_clear 4 = .ok (.iconst 0, 1) := by decide +kernel
theorem dX2_clear_5 : decode cX2_clear 5 = .ok (.aload_n 0, 1) := by decide +kernel
theorem dX2_clear_6 : decode cX2_clear 6 = .ok (.invokevirtual 19, 3) := by decide +kernel
theorem dX2_clear_9 : decode cX2_clear 9 = .ok (.iconst 0, 1) := by decide +kernel
theorem dX2_clear_10 : decode cX2_clear 10 = .ok (.invokestatic 23, 3) := by decide +kernel
theorem dX2_clear_13 : decode cX2_clear 13 = .ok (.aload_n 0, 1) := by decide +kernel
theorem dX2_clear_14 : decode cX2_clear 14 = .ok (.iconst 0, 1) := by decide +kernel
theorem dX2_clear_15 : decode cX2_clear 15 = .ok (.putfield 15, 3) := by decide +kernel
theorem dX2_clear_18 : decode cX2_clear 18 = .ok (.return_, 1) := by decide +kernel
theorem dX2_put_0 : decode cX2_put 0 = .ok (.iload_n 1, 1) := by decide +kernel
theorem dX2_put_1 : decode cX2_put 1 = .ok (.istore 4, 2) := by decide +kernel
theorem dX2_put_3 : decode cX2_put 3 = .ok (.iload 4, 2) := by decide +kernel
theorem dX2_put_5 : decode cX2_put 5 = .ok (.ifCond .le 92, 3) := by decide +kernel
theorem dX2_put_8 : decode cX2_put 8 = .ok (.aload_n 0, 1) := by decide +kernel
theorem dX2_put_9 : decode cX2_put 9 = .ok (.getfield 15, 3) := by decide +kernel
theorem dX2_put_12 : decode cX2_put 12 = .ok (.ldc 29, 2) := by decide +kernel
theorem dX2_put_14 : decode cX2_put 14 = .ok (.if_icmp .ge 83, 3) := by decide +kernel
theorem dX2_put_17 : decode cX2_put 17 = .ok (.bipush 8, 2) := by decide +kernel
theorem dX2_put_19 : decode cX2_put 19 = .ok (.aload_n 0, 1) := by decide +kernel
theorem dX2_put_20 : decode cX2_put 20 = .ok (.getfield 15, 3) := by decide +kernel
theorem dX2_put_23 : decode cX2_put 23 = .ok (.bipush 7, 2) := by decide +kernel
theorem dX2_put_25 : decode cX2_put 25 = .ok (.iand, 1) := by decide +kernel
theorem dX2_put_26 : decode cX2_put 26 = .ok (.isub, 1) := by decide +kernel
theorem dX2_put_27 : decode cX2_put 27 = .ok (.istore 5, 2) := by decide +kernel
theorem dX2_put_29 : decode cX2_put 29 = .ok (.iload 5, 2) := by decide +kernel
theorem dX2_put_31 : decode cX2_put 31 = .ok (.iload 4, 2) := by decide +kernel
theorem dX2_put_33 : decode cX2_put 33 = .ok (.invokestatic 30, 3) := by decide +kernel
theorem dX2_put_36 : decode cX2_put 36 = .ok (.istore 6, 2) := by decide +kernel
theorem dX2_put_38 : decode cX2_put 38 = .ok (.iload 4, 2) := by decide +kernel
theorem dX2_put_40 : decode cX2_put 40 = .ok (.iload 6, 2) := by decide +kernel
theorem dX2_put_42 : decode cX2_put 42 = .ok (.isub, 1) := by decide +kernel
theorem dX2_put_43 : decode cX2_put 43 = .ok (.istore 4, 2) := by decide +kernel
theorem dX2_put_45 : decode cX2_put 45 = .ok (.lload_n 2, 1) := by decide +kernel
theorem dX2_put_46 : decode cX2_put 46 = .ok (.iload 4, 2) := by decide +kernel
theorem dX2_put_48 : decode cX2_put 48 = .ok (.lshr, 1) := by decide +kernel
theorem dX2_put_49 : decode cX2_put 49 = .ok (.l2i, 1) := by decide +kernel
theorem dX2_put_50 : decode cX2_put 50 = .ok (.iconst 1, 1) := by decide +kernel
theorem dX2_put_51 : decode cX2_put 51 = .ok (.iload 6, 2) := by decide +kernel
theorem dX2_put_53 : decode cX2_put 53 = .ok (.ishl, 1) := by decide +kernel
theorem dX2_put_54 : decode cX2_put 54 = .ok (.iconst 1, 1) := by decide +kernel
theorem dX2_put_55 : decode cX2_put 55 = .ok (.isub, 1) := by decide +kernel
theorem dX2_put_56 : decode cX2_put 56 = .ok (.iand, 1) := by decide +kernel
theorem dX2_put_57 : decode cX2_put 57 = .ok (.istore 7, 2) := by decide +kernel
theorem dX2_put_59 : decode cX2_put 59 = .ok (.aload_n 0, 1) := by decide +kernel
theorem dX2_put_60 : decode cX2_put 60 = .ok (.getfield 9, 3) := by decide +kernel
theorem dX2_put_63 : decode cX2_put 63 = .ok (.aload_n 0, 1) := by decide +kernel
theorem dX2_put_64 : decode cX2_put 64 = .ok (.getfield 15, 3) := by decide +kernel
theorem dX2_put_67 : decode cX2_put 67 = .ok (.iconst 3, 1) := by decide +kernel
theorem dX2_put_68 : decode cX2_put 68 = .ok (.ishr, 1) := by decide +kernel
theorem dX2_put_69 : decode cX2_put 69 = .ok (.dup2, 1) := by decide +kernel
theorem dX2_put_70 : decode cX2_put 70 = .ok (.baload, 1) := by decide +kernel
theorem dX2_put_71 : decode cX2_put 71 = .ok (.iload 7, 2) := by decide +kernel
theorem dX2_put_73 : decode cX2_put 73 = .ok (.iload 5, 2) := by decide +kernel
theorem dX2_put_75 : decode cX2_put 75 = .ok (.iload 6, 2) := by decide +kernel
theorem dX2_put_77 : decode cX2_put 77 = .ok (.isub, 1) := by decide +kernel
theorem dX2_put_78 : decode cX2_put 78 = .ok (.ishl, 1) := by decide +kernel
theorem dX2_put_79 : decode cX2_put 79 = .ok (.i2b, 1) := by decide +kernel
theorem dX2_put_80 : decode cX2_put 80 = .ok (.ior, 1) := by decide +kernel
theorem dX2_put_81 : decode cX2_put 81 = .ok (.i2b, 1) := by decide +kernel
theorem dX2_put_82 : decode cX2_put 82 = .ok (.bastore, 1) := by decide +kernel
theorem dX2_put_83 : decode cX2_put 83 = .ok (.aload_n 0, 1) := by decide +kernel
theorem dX2_put_84 : decode cX2_put 84 = .ok (.dup, 1) := by decide +kernel
theorem dX2_put_85 : decode cX2_put 85 = .ok (.getfield 15, 3) := by decide +kernel
theorem dX2_put_88 : decode cX2_put 88 = .ok (.iload 6, 2) := by decide +kernel
theorem dX2_put_90 : decode cX2_put 90 = .ok (.iadd, 1) := by decide +kernel
theorem dX2_put_91 : decode cX2_put 91 = .ok (.putfield 15, 3) := by decide +kernel
theorem dX2_put_94 : decode cX2_put 94 = .ok (.goto (-91), 3) := by decide +kernel
theorem dX2_put_97 : decode cX2_put 97 = .ok (.return_, 1) := by decide +kernel
theorem dX2_putZeros_0 : decode cX2_putZeros 0 = .ok (.aload_n 0, 1) := by decide +kernel
theorem dX2_putZeros_1 : decode cX2_putZeros 1 = .ok (.aload_n 0, 1) := by decide +kernel
theorem dX2_putZeros_2 : decode cX2_putZeros 2 = .ok (.getfield 15, 3) := by decide +kernel
theorem dX2_putZeros_5 : decode cX2_putZeros 5 = .ok (.iload_n 1, 1) := by decide +kernel
theorem dX2_putZeros_6 : decode cX2_putZeros 6 = .ok (.iadd, 1) := by decide +kernel
theorem dX2_putZeros_7 : decode cX2_putZeros 7 = .ok (.ldc 29, 2) := by decide +kernel
theorem dX2_putZeros_9 : decode cX2_putZeros 9 = .ok (.invokestatic 30, 3) := by decide +kernel
theorem dX2_putZeros_12 : decode cX2_putZeros 12 = .ok (.putfield 15, 3) := by decide +kernel
theorem dX2_putZeros_15 : decode cX2_putZeros 15 = .ok (.return_, 1) := by decide +kernel
theorem dX2_fillByte_0 : decode cX2_fillByte 0 = .ok (.aload_n 0, 1) := by decide +kernel
theorem dX2_fillByte_1 : decode cX2_fillByte 1 = .ok (.bipush 8, 2) := by decide +kernel
theorem dX2_fillByte_3 : decode cX2_fillByte 3 = .ok (.aload_n 0, 1) := by decide +kernel
theorem dX2_fillByte_4 : decode cX2_fillByte 4 = .ok (.invokevirtual 19, 3) := by decide +kernel
theorem dX2_fillByte_7 : decode cX2_fillByte 7 = .ok (.imul, 1) := by decide +kernel
theorem dX2_fillByte_8 : decode cX2_fillByte 8 = .ok (.putfield 15, 3) := by decide +kernel
theorem dX2_fillByte_11 : decode cX2_fillByte 11 = .ok (.return_, 1) := by decide +kernel
theorem dX3_init_0 : decode cX3_init 0 = .ok (.aload_n 0, 1) := by decide +kernel
theorem dX3_init_1 : decode cX3_init 1 = .ok (.invokespecial 1, 3) := by decide +kernel
theorem dX3_init_4 : decode cX3_init 4 = .ok (.aload_n 0, 1) := by decide +kernel
theorem dX3_init_5 : decode cX3_init 5 = .ok (.iload_n 1, 1) := by decide +kernel
theorem dX3_init_6 : decode cX3_init 6 = .ok (.newarray .int, 2) := by decide +kernel
theorem dX3_init_8 : decode cX3_init 8 = .ok (.putfield 7, 3) := by decide +kernel
theorem dX3_init_11 : decode cX3_init 11 = .ok (.aload_n 0, 1) := by decide +kernel
theorem dX3_init_12 : decode cX3_init 12 = .ok (.iconst 0, 1) := by decide +kernel
theorem dX3_init_13 : decode cX3_init 13 = .ok (.putfield 13, 3) := by decide +kernel
theorem dX3_init_16 : decode cX3_init 16 = .ok (.aload_n 0, 1) := by decide +kernel
theorem dX3_init_17 : decode cX3_init 17 = .ok (.iconst 0, 1) := by decide +kernel
theorem dX3_init_18 : decode cX3_init 18 = .ok (.putfield 17, 3) := by decide +kernel
theorem dX3_init_21 : decode cX3_init 21 = .ok (.return_, 1) := by decide +kernel
theorem dX3_begin_0 : decode cX3_begin 0 = .ok (.aload_n 0, 1) := by decide +kernel
theorem dX3_begin_1 : decode cX3_begin 1 = .ok (.iconst 0, 1) := by decide +kernel
theorem dX3_begin_2 : decode cX3_begin 2 = .ok (.putfield 13, 3) := by decide +kernel
theorem dX3_begin_5 : decode cX3_begin 5 = .ok (.aload_n 0, 1) := by decide +kernel
theorem dX3_begin_6 : decode cX3_begin 6 = .ok (.iload_n 1, 1) := by decide +kernel
theorem dX3_begin_7 : decode cX3_begin 7 = .ok (.putfield 17, 3) := by decide +kernel
theorem dX3_begin_10 : decode cX3_begin 10 = .ok (.return_, 1) := by decide +kernel
theorem dX3_add_0 : decode cX3_add 0 = .ok (.aload_n 0, 1) := by decide +kernel
theorem dX3_add_1 : decode cX3_add 1 = .ok (.getfield 13, 3) := by decide +kernel
theorem dX3_add_4 : decode cX3_add 4 = .ok (.aload_n 0, 1) := by decide +kernel
theorem dX3_add_5 : decode cX3_add 5 = .ok (.getfield 7, 3) := by decide +kernel
theorem dX3_add_8 : decode cX3_add 8 = .ok (.arraylength, 1) := by decide +kernel
theorem dX3_add_9 : decode cX3_add 9 = .ok (.if_icmp .ge 23, 3) := by decide +kernel
theorem dX3_add_12 : decode cX3_add 12 = .ok (.aload_n 0, 1) := by decide +kernel
theorem dX3_add_13 : decode cX3_add 13 = .ok (.getfield 7, 3) := by decide +kernel
theorem dX3_add_16 : decode cX3_add 16 = .ok (.aload_n 0, 1) := by decide +kernel
theorem dX3_add_17 : decode cX3_add 17 = .ok (.getfield 13, 3) := by decide +kernel
theorem dX3_add_20 : decode cX3_add 20 = .ok (.iload_n 1, 1) := by decide +kernel
theorem dX3_add_21 : decode cX3_add 21 = .ok (.iastore, 1) := by decide +kernel
theorem dX3_add_22 : decode cX3_add 22 = .ok (.aload_n 0, 1) := by decide +kernel
theorem dX3_add_23 : decode cX3_add 23 = .ok (.dup, 1) := by decide +kernel
theorem dX3_add_24 : decode cX3_add 24 = .ok (.getfield 13, 3) := by decide +kernel
theorem dX3_add_27 : decode cX3_add 27 = .ok (.iconst 1, 1) := by decide +kernel
theorem dX3_add_28 : decode cX3_add 28 = .ok (.iadd, 1) := by decide +kernel
theorem dX3_add_29 : decode cX3_add 29 = .ok (.putfield 13, 3) := by decide +kernel
theorem dX3_add_32 : decode cX3_add 32 = .ok (.return_, 1) := by decide +kernel
theorem dX3_becomeFixed_0 : decode cX3_becomeFixed 0 = .ok (.aload_n 0, 1) := by decide +kernel
theorem dX3_becomeFixed_1 : decode cX3_becomeFixed 1 = .ok (.iconst 0, 1) := by decide +kernel
theorem dX3_becomeFixed_2 : decode cX3_becomeFixed 2 = .ok (.invokevirtual 20, 3) := by decide +kernel
theorem dX3_becomeFixed_5 : decode cX3_becomeFixed 5 = .ok (.iload_n 1, 1) := by decide +kernel
theorem dX3_becomeFixed_6 : decode cX3_becomeFixed 6 = .ok (.iload_n 1, 1) := by decide +kernel
theorem dX3_becomeFixed_7 : decode cX3_becomeFixed 7 = .ok (.iconst 1, 1) := by decide +kernel
theorem dX3_becomeFixed_8 : decode cX3_becomeFixed 8 = .ok (.isub, 1) := by decide +kernel
theorem dX3_becomeFixed_9 : decode cX3_becomeFixed 9 = .ok (.imul, 1) := by decide +kernel
theorem dX3_becomeFixed_10 : decode cX3_becomeFixed 10 = .ok (.iconst 2, 1) := by decide +kernel
theorem dX3_becomeFixed_11 : decode cX3_becomeFixed 11 = .ok (.idiv, 1) := by decide +kernel
theorem dX3_becomeFixed_12 : decode cX3_becomeFixed 12 = .ok (.istore_n 2, 1) := by decide +kernel
theorem dX3_becomeFixed_13 : decode cX3_becomeFixed 13 = .ok (.iconst 0, 1) := by decide +kernel
theorem dX3_becomeFixed_14 : decode cX3_becomeFixed 14 = .ok (.istore_n 3, 1) := by decide +kernel
theorem dX3_becomeFixed_15 : decode cX3_becomeFixed 15 = .ok (.iload_n 3, 1) := by decide +kernel
theorem dX3_becomeFixed_16 : decode cX3_becomeFixed 16 = .ok (.iload_n 1, 1) := by decide +kernel
theorem dX3_becomeFixed_17 : decode cX3_becomeFixed 17 = .ok (.if_icmp .ge 20, 3) := by decide +kernel
theorem dX3_becomeFixed_20 : decode cX3_becomeFixed 20 = .ok (.aload_n 0, 1) := by decide +kernel
theorem dX3_becomeFixed_21 : decode cX3_becomeFixed 21 = .ok (.getstatic 24, 3) := by decide +kernel
theorem dX3_becomeFixed_24 : decode cX3_becomeFixed 24 = .ok (.iload_n 2, 1) := by decide +kernel
theorem dX3_becomeFixed_25 : decode cX3_becomeFixed 25 = .ok (.iload_n 3, 1) := by decide +kernel
theorem dX3_becomeFixed_26 : decode cX3_becomeFixed 26 = .ok (.iadd, 1) := by decide +kernel
theorem dX3_becomeFixed_27 : decode cX3_becomeFixed 27 = .ok (.iaload, 1) := by decide +kernel
theorem dX3_becomeFixed_28 : decode cX3_becomeFixed 28 = .ok (.invokevirtual 27, 3) := by decide +kernel
theorem dX3_becomeFixed_31 : decode cX3_becomeFixed 31 = .ok (.iinc 3 1, 3) := by decide +kernel
theorem dX3_becomeFixed_34 : decode cX3_becomeFixed 34 = .ok (.goto (-19), 3) := by decide +kernel
theorem dX3_becomeFixed_37 : decode cX3_becomeFixed 37 = .ok (.return_, 1) := by decide +kernel
theorem dX3_foretell_0 : decode cX3_foretell 0 = .ok (.lconst 0, 1) := by decide +kernel
theorem dX3_foretell_1 : decode cX3_foretell 1 = .ok (.lstore_n 3, 1) := by decide +kernel
theorem dX3_foretell_2 : decode cX3_foretell 2 = .ok (.iconst 0, 1) := by decide +kernel
theorem dX3_foretell_3 : decode cX3_foretell 3 = .ok (.istore 5, 2) := by decide +kernel
theorem dX3_foretell_5 : decode cX3_foretell 5 = .ok (.iload 5, 2) := by decide +kernel
theorem dX3_foretell_7 : decode cX3_foretell 7 = .ok (.aload_n 0, 1) := by decide +kernel
theorem dX3_foretell_8 : decode cX3_foretell 8 = .ok (.getfield 13, 3) := by decide +kernel
theorem dX3_foretell_11 : decode cX3_foretell 11 = .ok (.if_icmp .ge 30, 3) := by decide +kernel
theorem dX3_foretell_14 : decode cX3_foretell 14 = .ok (.lload_n 3, 1) := by decide +kernel
theorem dX3_foretell_15 : decode cX3_foretell 15 = .ok (.aload_n 0, 1) := by decide +kernel
theorem dX3_foretell_16 : decode cX3_foretell 16 = .ok (.getfield 7, 3) := by decide +kernel
theorem dX3_foretell_19 : decode cX3_foretell 19 = .ok (.iload 5, 2) := by decide +kernel
theorem dX3_foretell_21 : decode cX3_foretell 21 = .ok (.iaload, 1) := by decide +kernel
theorem dX3_foretell_22 : decode cX3_foretell 22 = .ok (.i2l, 1) := by decide +kernel
theorem dX3_foretell_23 : decode cX3_foretell 23 = .ok (.aload_n 1, 1) := by decide +kernel
theorem dX3_foretell_24 : decode cX3_foretell 24 = .ok (.iload_n 2, 1) := by decide +kernel
theorem dX3_foretell_25 : decode cX3_foretell 25 = .ok (.iconst 1, 1) := by decide +kernel
theorem dX3_foretell_26 : decode cX3_foretell 26 = .ok (.isub, 1) := by decide +kernel
theorem dX3_foretell_27 : decode cX3_foretell 27 = .ok (.iload 5, 2) := by decide +kernel
theorem dX3_foretell_29 : decode cX3_foretell 29 = .ok (.isub, 1) := by decide +kernel
theorem dX3_foretell_30 : decode cX3_foretell 30 = .ok (.iaload, 1) := by decide +kernel
theorem dX3_foretell_31 : decode cX3_foretell 31 = .ok (.i2l, 1) := by decide +kernel
theorem dX3_foretell_32 : decode cX3_foretell 32 = .ok (.lmul, 1) := by decide +kernel
theorem dX3_foretell_33 : decode cX3_foretell 33 = .ok (.ladd, 1) := by decide +kernel
theorem dX3_foretell_34 : decode cX3_foretell 34 = .ok (.lstore_n 3, 1) := by decide +kernel
theorem dX3_foretell_35 : decode cX3_foretell 35 = .ok (.iinc 5 1, 3) := by decide +kernel
theorem dX3_foretell_38 : decode cX3_foretell 38 = .ok (.goto (-33), 3) := by decide +kernel
theorem dX3_foretell_41 : decode cX3_foretell 41 = .ok (.lload_n 3, 1) := by decide +kernel
theorem dX3_foretell_42 : decode cX3_foretell 42 = .ok (.aload_n 0, 1) := by decide +kernel
theorem dX3_foretell_43 : decode cX3_foretell 43 = .ok (.getfield 17, 3) := by decide +kernel
theorem dX3_foretell_46 : decode cX3_foretell 46 = .ok (.lshr, 1) := by decide +kernel
theorem dX3_foretell_47 : decode cX3_foretell 47 = .ok (.lreturn, 1) := by decide +kernel
theorem dX4_init_0 : decode cX4_init 0 = .ok (.aload_n 0, 1) := by decide +kernel
theorem dX4_init_1 : decode cX4_init 1 = .ok (.invokespecial 3, 3) := by decide +kernel
theorem dX4_init_4 : decode cX4_init 4 = .ok (.aload_n 0, 1) := by decide +kernel
theorem dX4_init_5 : decode cX4_init 5 = .ok (.sipush 20000, 3) := by decide +kernel
theorem dX4_init_8 : decode cX4_init 8 = .ok (.newarray .byte, 2) := by decide +kernel
theorem dX4_init_10 : decode cX4_init 10 = .ok (.putfield 9, 3) := by decide +kernel
theorem dX4_init_13 : decode cX4_init 13 = .ok (.aload_n 0, 1) := by decide +kernel
theorem dX4_init_14 : decode cX4_init 14 = .ok (.iconst 0, 1) := by decide +kernel
theorem dX4_init_15 : decode cX4_init 15 = .ok (.putfield 15, 3) := by decide +kernel
theorem dX4_init_18 : decode cX4_init 18 = .ok (.aload_n 0, 1) := by decide +kernel
theorem dX4_init_19 : decode cX4_init 19 = .ok (.iconst 0, 1) := by decide +kernel
theorem dX4_init_20 : decode cX4_init 20 = .ok (.putfield 19, 3) := by decide +kernel
theorem dX4_init_23 : decode cX4_init 23 = .ok (.aload_n 0, 1) := by decide +kernel
theorem dX4_init_24 : decode cX4_init 24 = .ok (.iconst (-1), 1) := by decide +kernel
theorem dX4_init_25 : decode cX4_init 25 = .ok (.putfield 22, 3) := by decide +kernel
theorem dX4_init_28 : decode cX4_init 28 = .ok (.aload_n 0, 1) := by decide +kernel
theorem dX4_init_29 : decode cX4_init 29 = .ok (.new 25, 3) := by decide +kernel
theorem dX4_init_32 : decode cX4_init 32 = .ok (.dup, 1) := by decide +kernel
theorem dX4_init_33 : decode cX4_init 33 = .ok (.invokespecial 27, 3) := by decide +kernel
theorem dX4_init_36 : decode cX4_init 36 = .ok (.putfield 28, 3) := by decide +kernel
theorem dX4_init_39 : decode cX4_init 39 = .ok (.aload_n 0, 1) := by decide +kernel
theorem dX4_init_40 : decode cX4_init 40 = .ok (.sipush 4096, 3) := by decide +kernel
theorem dX4_init_43 : decode cX4_init 43 = .ok (.newarray .int, 2) := by decide +kernel
theorem dX4_init_45 : decode cX4_init 45 = .ok (.putfield 32, 3) := by decide +kernel
theorem dX4_init_48 : decode cX4_init 48 = .ok (.aload_n 0, 1) := by decide +kernel
theorem dX4_init_49 : decode cX4_init 49 = .ok (.bipush 8, 2) := by decide +kernel
theorem dX4_init_51 : decode cX4_init 51 = .ok (.sipush 256, 3) := by decide +kernel
theorem dX4_init_54 : decode cX4_init 54 = .ok (.multianewarray 36 2, 4) := by decide +kernel
theorem dX4_init_58 : decode cX4_init 58 = .ok (.putfield 38, 3) := by decide +kernel
theorem dX4_init_61 : decode cX4_init 61 = .ok (.aload_n 0, 1) := by decide +kernel
theorem dX4_init_62 : decode cX4_init 62 = .ok (.new 41, 3) := by decide +kernel
theorem dX4_init_65 : decode cX4_init 65 = .ok (.dup, 1) := by decide +kernel
theorem dX4_init_66 : decode cX4_init 66 = .ok (.bipush 32, 2) := by decide +kernel
theorem dX4_init_68 : decode cX4_init 68 = .ok (.invokespecial 43, 3) := by decide +kernel
theorem dX4_init_71 : decode cX4_init 71 = .ok (.putfield 46, 3) := by decide +kernel
theorem dX4_init_74 : decode cX4_init 74 = .ok (.return_, 1) := by decide +kernel
theorem dX4_append_0 : decode cX4_append 0 = .ok (.aload_n 0, 1) := by decide +kernel
theorem dX4_append_1 : decode cX4_append 1 = .ok (.getfield 15, 3) := by decide +kernel
theorem dX4_append_4 : decode cX4_append 4 = .ok (.iload_n 3, 1) := by decide +kernel
theorem dX4_append_5 : decode cX4_append 5 = .ok (.iadd, 1) := by decide +kernel
theorem dX4_append_6 : decode cX4_append 6 = .ok (.sipush 20000, 3) := by decide +kernel
theorem dX4_append_9 : decode cX4_append 9 = .ok (.if_icmp .le 5, 3) := by decide +kernel
theorem dX4_append_12 : decode cX4_append 12 = .ok (.iconst 0, 1) := by decide +kernel
theorem dX4_append_13 : decode cX4_append 13 = .ok (.ireturn, 1) := by decide +kernel
theorem dX4_append_14 : decode cX4_append 14 = .ok (.iconst 0, 1) := by decide +kernel
theorem dX4_append_15 : decode cX4_append 15 = .ok (.istore 4, 2) := by decide +kernel
theorem dX4_append_17 : decode cX4_append 17 = .ok (.iload 4, 2) := by decide +kernel
theorem dX4_append_19 : decode cX4_append 19 = .ok (.iload_n 3, 1) := by decide +kernel
theorem dX4_append_20 : decode cX4_append 20 = .ok (.if_icmp .ge 33, 3) := by decide +kernel
theorem dX4_append_23 : decode cX4_append 23 = .ok (.aload_n 0, 1) := by decide +kernel
theorem dX4_append_24 : decode cX4_append 24 = .ok (.getfield 9, 3) := by decide +kernel
theorem dX4_append_27 : decode cX4_append 27 = .ok (.aload_n 0, 1) := by decide +kernel
theorem dX4_append_28 : decode cX4_append 28 = .ok (.getfield 15, 3) := by decide +kernel
theorem dX4_append_31 : decode cX4_append 31 = .ok (.iload 4, 2) := by decide +kernel
theorem dX4_append_33 : decode cX4_append 33 = .ok (.iadd, 1) := by decide +kernel
theorem dX4_append_34 : decode cX4_append 34 = .ok (.lload_n 1, 1) := by decide +kernel
theorem dX4_append_35 : decode cX4_append 35 = .ok (.bipush 56, 2) := by decide +kernel
theorem dX4_append_37 : decode cX4_append 37 = .ok (.bipush 8, 2) := by decide +kernel
theorem dX4_append_39 : decode cX4_append 39 = .ok (.iload 4, 2) := by decide +kernel
theorem dX4_append_41 : decode cX4_append 41 = .ok (.imul, 1) := by decide +kernel
theorem dX4_append_42 : decode cX4_append 42 = .ok (.isub, 1) := by decide +kernel
theorem dX4_append_43 : decode cX4_append 43 = .ok (.lshr, 1) := by decide +kernel
theorem dX4_append_44 : decode cX4_append 44 = .ok (.l2i, 1) := by decide +kernel
theorem dX4_append_45 : decode cX4_append 45 = .ok (.i2b, 1) := by decide +kernel
theorem dX4_append_46 : decode cX4_append 46 = .ok (.bastore, 1) := by decide +kernel
theorem dX4_append_47 : decode cX4_append 47 = .ok (.iinc 4 1, 3) := by decide +kernel
theorem dX4_append_50 : decode cX4_append 50 = .ok (.goto (-33), 3) := by decide +kernel
theorem dX4_append_53 : decode cX4_append 53 = .ok (.aload_n 0, 1) := by decide +kernel
theorem dX4_append_54 : decode cX4_append 54 = .ok (.dup, 1) := by decide +kernel
theorem dX4_append_55 : decode cX4_append 55 = .ok (.getfield 15, 3) := by decide +kernel
theorem dX4_append_58 : decode cX4_append 58 = .ok (.iload_n 3, 1) := by decide +kernel
theorem dX4_append_59 : decode cX4_append 59 = .ok (.iadd, 1) := by decide +kernel
theorem dX4_append_60 : decode cX4_append 60 = .ok (.putfield 15, 3) := by decide +kernel
theorem dX4_append_63 : decode cX4_append 63 = .ok (.iconst 1, 1) := by decide +kernel
theorem dX4_append_64 : decode cX4_append 64 = .ok (.ireturn, 1) := by decide +kernel
theorem dX4_load_0 : decode cX4_load 0 = .ok (.aload_n 0, 1) := by decide +kernel
theorem dX4_load_1 : decode cX4_load 1 = .ok (.aload_n 1, 1) := by decide +kernel
theorem dX4_load_2 : decode cX4_load 2 = .ok (.invokevirtual 50, 3) := by decide +kernel
theorem dX4_load_5 : decode cX4_load 5 = .ok (.putfield 15, 3) := by decide +kernel
theorem dX4_load_8 : decode cX4_load 8 = .ok (.aload_n 1, 1) := by decide +kernel
theorem dX4_load_9 : decode cX4_load 9 = .ok (.getfield 55, 3) := by decide +kernel
theorem dX4_load_12 : decode cX4_load 12 = .ok (.iconst 0, 1) := by decide +kernel
theorem dX4_load_13 : decode cX4_load 13 = .ok (.aload_n 0, 1) := by decide +kernel
theorem dX4_load_14 : decode cX4_load 14 = .ok (.getfield 9, 3) := by decide +kernel
theorem dX4_load_17 : decode cX4_load 17 = .ok (.iconst 0, 1) := by decide +kernel
theorem dX4_load_18 : decode cX4_load 18 = .ok (.aload_n 0, 1) := by decide +kernel
theorem dX4_load_19 : decode cX4_load 19 = .ok (.getfield 15, 3) := by decide +kernel
theorem dX4_load_22 : decode cX4_load 22 = .ok (.invokestatic 58, 3) := by decide +kernel
theorem dX4_load_25 : decode cX4_load 25 = .ok (.return_, 1) := by decide +kernel
theorem dX4_accepts_0 : decode cX4_accepts 0 = .ok (.aload_n 0, 1) := by decide +kernel
theorem dX4_accepts_1 : decode cX4_accepts 1 = .ok (.iconst 0, 1) := by decide +kernel
theorem dX4_accepts_2 : decode cX4_accepts 2 = .ok (.putfield 19, 3) := by decide +kernel
theorem dX4_accepts_5 : decode cX4_accepts 5 = .ok (.aload_n 0, 1) := by decide +kernel
theorem dX4_accepts_6 : decode cX4_accepts 6 = .ok (.iconst (-1), 1) := by decide +kernel
theorem dX4_accepts_7 : decode cX4_accepts 7 = .ok (.putfield 22, 3) := by decide +kernel
theorem dX4_accepts_10 : decode cX4_accepts 10 = .ok (.aload_n 0, 1) := by decide +kernel
theorem dX4_accepts_11 : decode cX4_accepts 11 = .ok (.iconst 0, 1) := by decide +kernel
theorem dX4_accepts_12 : decode cX4_accepts 12 = .ok (.putfield 64, 3) := by decide +kernel
theorem dX4_accepts_15 : decode cX4_accepts 15 = .ok (.iconst 1, 1) := by decide +kernel
theorem dX4_accepts_16 : decode cX4_accepts 16 = .ok (.istore_n 1, 1) := by decide +kernel
theorem dX4_accepts_17 : decode cX4_accepts 17 = .ok (.aload_n 0, 1) := by decide +kernel
theorem dX4_accepts_18 : decode cX4_accepts 18 = .ok (.invokevirtual 67, 3) := by decide +kernel
theorem dX4_accepts_21 : decode cX4_accepts 21 = .ok (.iconst 0, 1) := by decide +kernel
theorem dX4_accepts_22 : decode cX4_accepts 22 = .ok (.istore_n 2, 1) := by decide +kernel
theorem dX4_accepts_23 : decode cX4_accepts 23 = .ok (.iload_n 2, 1) := by decide +kernel
theorem dX4_accepts_24 : decode cX4_accepts 24 = .ok (.sipush 256, 3) := by decide +kernel
theorem dX4_accepts_27 : decode cX4_accepts 27 = .ok (.if_icmp .ge 54, 3) := by decide +kernel
theorem dX4_accepts_30 : decode cX4_accepts 30 = .ok (.iload_n 2, 1) := by decide +kernel
theorem dX4_accepts_31 : decode cX4_accepts 31 = .ok (.aload_n 0, 1) := by decide +kernel
theorem dX4_accepts_32 : decode cX4_accepts 32 = .ok (.getfield 28, 3) := by decide +kernel
theorem dX4_accepts_35 : decode cX4_accepts 35 = .ok (.getfield 70, 3) := by decide +kernel
theorem dX4_accepts_38 : decode cX4_accepts 38 = .ok (.imul, 1) := by decide +kernel
theorem dX4_accepts_39 : decode cX4_accepts 39 = .ok (.aload_n 0, 1) := by decide +kernel
theorem dX4_accepts_40 : decode cX4_accepts 40 = .ok (.getfield 73, 3) := by decide +kernel
theorem dX4_accepts_43 : decode cX4_accepts 43 = .ok (.if_icmp .ge 38, 3) := by decide +kernel
theorem dX4_accepts_46 : decode cX4_accepts 46 = .ok (.aload_n 0, 1) := by decide +kernel
theorem dX4_accepts_47 : decode cX4_accepts 47 = .ok (.iload_n 2, 1) := by decide +kernel
theorem dX4_accepts_48 : decode cX4_accepts 48 = .ok (.aload_n 0, 1) := by decide +kernel
theorem dX4_accepts_49 : decode cX4_accepts 49 = .ok (.getfield 28, 3) := by decide +kernel
theorem dX4_accepts_52 : decode cX4_accepts 52 = .ok (.getfield 70, 3) := by decide +kernel
theorem dX4_accepts_55 : decode cX4_accepts 55 = .ok (.aload_n 0, 1) := by decide +kernel
theorem dX4_accepts_56 : decode cX4_accepts 56 = .ok (.getfield 73, 3) := by decide +kernel
theorem dX4_accepts_59 : decode cX4_accepts 59 = .ok (.iload_n 2, 1) := by decide +kernel
theorem dX4_accepts_60 : decode cX4_accepts 60 = .ok (.aload_n 0, 1) := by decide +kernel
theorem dX4_accepts_61 : decode cX4_accepts 61 = .ok (.getfield 28, 3) := by decide +kernel
theorem dX4_accepts_64 : decode cX4_accepts 64 = .ok (.getfield 70, 3) := by decide +kernel
theorem dX4_accepts_67 : decode cX4_accepts 67 = .ok (.imul, 1) := by decide +kernel
theorem dX4_accepts_68 : decode cX4_accepts 68 = .ok (.isub, 1) := by decide +kernel
theorem dX4_accepts_69 : decode cX4_accepts 69 = .ok (.invokestatic 76, 3) := by decide +kernel
theorem dX4_accepts_72 : decode cX4_accepts 72 = .ok (.invokevirtual 82, 3) := by decide +kernel
theorem dX4_accepts_75 : decode cX4_accepts 75 = .ok (.iinc 2 1, 3) := by decide +kernel
theorem dX4_accepts_78 : decode cX4_accepts 78 = .ok (.goto (-55), 3) := by decide +kernel
theorem dX4_accepts_81 : decode cX4_accepts 81 = .ok (.aload_n 0, 1) := by decide +kernel
theorem dX4_accepts_82 : decode cX4_accepts 82 = .ok (.invokevirtual 86, 3) := by decide +kernel
theorem dX4_accepts_85 : decode cX4_accepts 85 = .ok (.goto 6, 3) := by decide +kernel
theorem dX4_accepts_88 : decode cX4_accepts 88 = .ok (.astore_n 2, 1) := by decide +kernel
theorem dX4_accepts_89 : decode cX4_accepts 89 = .ok (.iconst 0, 1) := by decide +kernel
theorem dX4_accepts_90 : decode cX4_accepts 90 = .ok (.istore_n 1, 1) := by decide +kernel
theorem dX4_accepts_91 : decode cX4_accepts 91 = .ok (.aload_n 0, 1) := by decide +kernel
theorem dX4_accepts_92 : decode cX4_accepts 92 = .ok (.iconst 0, 1) := by decide +kernel
theorem dX4_accepts_93 : decode cX4_accepts 93 = .ok (.putfield 15, 3) := by decide +kernel
theorem dX4_accepts_96 : decode cX4_accepts 96 = .ok (.iload_n 1, 1) := by decide +kernel
theorem dX4_accepts_97 : decode cX4_accepts 97 = .ok (.ireturn, 1) := by decide +kernel
theorem dX4_fail_0 : decode cX4_fail 0 = .ok (.aload_n 0, 1) := by decide +kernel
theorem dX4_fail_1 : decode cX4_fail 1 = .ok (.iload_n 1, 1) := by decide +kernel
theorem dX4_fail_2 : decode cX4_fail 2 = .ok (.putfield 19, 3) := by decide +kernel
theorem dX4_fail_5 : decode cX4_fail 5 = .ok (.aload_n 0, 1) := by decide +kernel
theorem dX4_fail_6 : decode cX4_fail 6 = .ok (.iload_n 2, 1) := by decide +kernel
theorem dX4_fail_7 : decode cX4_fail 7 = .ok (.putfield 22, 3) := by decide +kernel
theorem dX4_fail_10 : decode cX4_fail 10 = .ok (.new 89, 3) := by decide +kernel
theorem dX4_fail_13 : decode cX4_fail 13 = .ok (.dup, 1) := by decide +kernel
theorem dX4_fail_14 : decode cX4_fail 14 = .ok (.invokespecial 91, 3) := by decide +kernel
theorem dX4_fail_17 : decode cX4_fail 17 = .ok (.athrow, 1) := by decide +kernel
theorem dX4_failUnless_0 : decode cX4_failUnless 0 = .ok (.iload_n 1, 1) := by decide +kernel
theorem dX4_failUnless_1 : decode cX4_failUnless 1 = .ok (.ifCond .ne 12, 3) := by decide +kernel
theorem dX4_failUnless_4 : decode cX4_failUnless 4 = .ok (.aload_n 0, 1) := by decide +kernel
theorem dX4_failUnless_5 : decode cX4_failUnless 5 = .ok (.iload_n 2, 1) := by decide +kernel
theorem dX4_failUnless_6 : decode cX4_failUnless 6 = .ok (.aload_n 0, 1) := by decide +kernel
theorem dX4_failUnless_7 : decode cX4_failUnless 7 = .ok (.getfield 92, 3) := by decide +kernel
theorem dX4_failUnless_10 : decode cX4_failUnless 10 = .ok (.invokevirtual 95, 3) := by decide +kernel
theorem dX4_failUnless_13 : decode cX4_failUnless 13 = .ok (.return_, 1) := by decide +kernel
theorem dX4_number_0 : decode cX4_number 0 = .ok (.aload_n 0, 1) := by decide +kernel
theorem dX4_number_1 : decode cX4_number 1 = .ok (.aload_n 0, 1) := by decide +kernel
theorem dX4_number_2 : decode cX4_number 2 = .ok (.getfield 64, 3) := by decide +kernel
theorem dX4_number_5 : decode cX4_number 5 = .ok (.putfield 92, 3) := by decide +kernel
theorem dX4_number_8 : decode cX4_number 8 = .ok (.iload_n 1, 1) := by decide +kernel
theorem dX4_number_9 : decode cX4_number 9 = .ok (.bipush 8, 2) := by decide +kernel
theorem dX4_number_11 : decode cX4_number 11 = .ok (.aload_n 0, 1) := by decide +kernel
theorem dX4_number_12 : decode cX4_number 12 = .ok (.getfield 15, 3) := by decide +kernel
theorem dX4_number_15 : decode cX4_number 15 = .ok (.imul, 1) := by decide +kernel
theorem dX4_number_16 : decode cX4_number 16 = .ok (.aload_n 0, 1) := by decide +kernel
theorem dX4_number_17 : decode cX4_number 17 = .ok (.getfield 64, 3) := by decide +kernel
theorem dX4_number_20 : decode cX4_number 20 = .ok (.isub, 1) := by decide +kernel
theorem dX4_number_21 : decode cX4_number 21 = .ok (.if_icmp .le 12, 3) := by decide +kernel
theorem dX4_number_24 : decode cX4_number 24 = .ok (.aload_n 0, 1) := by decide +kernel
theorem dX4_number_25 : decode cX4_number 25 = .ok (.iconst 1, 1) := by decide +kernel
theorem dX4_number_26 : decode cX4_number 26 = .ok (.aload_n 0, 1) := by decide +kernel
theorem dX4_number_27 : decode cX4_number 27 = .ok (.getfield 64, 3) := by decide +kernel
theorem dX4_number_30 : decode cX4_number 30 = .ok (.invokevirtual 95, 3) := by decide +kernel
theorem dX4_number_33 : decode cX4_number 33 = .ok (.lconst 0, 1) := by decide +kernel
theorem dX4_number_34 : decode cX4_number 34 = .ok (.lstore_n 2, 1) := by decide +kernel
theorem dX4_number_35 : decode cX4_number 35 = .ok (.iload_n 1, 1) := by decide +kernel
theorem dX4_number_36 : decode cX4_number 36 = .ok (.istore 4, 2) := by decide +kernel
theorem dX4_number_38 : decode cX4_number 38 = .ok (.iload 4, 2) := by decide +kernel
theorem dX4_number_40 : decode cX4_number 40 = .ok (.ifCond .le 84, 3) := by decide +kernel
theorem dX4_number_43 : decode cX4_number 43 = .ok (.bipush 8, 2) := by decide +kernel
theorem dX4_number_45 : decode cX4_number 45 = .ok (.aload_n 0, 1) := by decide +kernel
theorem dX4_number_46 : decode cX4_number 46 = .ok (.getfield 64, 3) := by decide +kernel
theorem dX4_number_49 : decode cX4_number 49 = .ok (.bipush 7, 2) := by decide +kernel
theorem dX4_number_51 : decode cX4_number 51 = .ok (.iand, 1) := by decide +kernel
theorem dX4_number_52 : decode cX4_number 52 = .ok (.isub, 1) := by decide +kernel
theorem dX4_number_53 : decode cX4_number 53 = .ok (.istore 5, 2) := by decide +kernel
theorem dX4_number_55 : decode cX4_number 55 = .ok (.iload 5, 2) := by decide +kernel
theorem dX4_number_57 : decode cX4_number 57 = .ok (.iload 4, 2) := by decide +kernel
theorem dX4_number_59 : decode cX4_number 59 = .ok (.invokestatic 76, 3) := by decide +kernel
theorem dX4_number_62 : decode cX4_number 62 = .ok (.istore 6, 2) := by decide +kernel
theorem dX4_number_64 : decode cX4_number 64 = .ok (.aload_n 0, 1) := by decide +kernel
theorem dX4_number_65 : decode cX4_number 65 = .ok (.getfield 9, 3) := by decide +kernel
theorem dX4_number_68 : decode cX4_number 68 = .ok (.aload_n 0, 1) := by decide +kernel
theorem dX4_number_69 : decode cX4_number 69 = .ok (.getfield 64, 3) := by decide +kernel
theorem dX4_number_72 : decode cX4_number 72 = .ok (.iconst 3, 1) := by decide +kernel
theorem dX4_number_73 : decode cX4_number 73 = .ok (.ishr, 1) := by decide +kernel
theorem dX4_number_74 : decode cX4_number 74 = .ok (.baload, 1) := by decide +kernel
theorem dX4_number_75 : decode cX4_number 75 = .ok (.sipush 255, 3) := by decide +kernel
theorem dX4_number_78 : decode cX4_number 78 = .ok (.iand, 1) := by decide +kernel
theorem dX4_number_79 : decode cX4_number 79 = .ok (.iload 5, 2) := by decide +kernel
theorem dX4_number_81 : decode cX4_number 81 = .ok (.iload 6, 2) := by decide +kernel
theorem dX4_number_83 : decode cX4_number 83 = .ok (.isub, 1) := by decide +kernel
theorem dX4_number_84 : decode cX4_number 84 = .ok (.ishr, 1) := by decide +kernel
theorem dX4_number_85 : decode cX4_number 85 = .ok (.istore 7, 2) := by decide +kernel
theorem dX4_number_87 : decode cX4_number 87 = .ok (.lload_n 2, 1) := by decide +kernel
theorem dX4_number_88 : decode cX4_number 88 = .ok (.iload 6, 2) := by decide +kernel
theorem dX4_number_90 : decode cX4_number 90 = .ok (.lshl, 1) := by decide +kernel
theorem dX4_number_91 : decode cX4_number 91 = .ok (.iload 7, 2) := by decide +kernel
theorem dX4_number_93 : decode cX4_number 93 = .ok (.iconst 1, 1) := by decide +kernel
theorem dX4_number_94 : decode cX4_number 94 = .ok (.iload 6, 2) := by decide +kernel
theorem dX4_number_96 : decode cX4_number 96 = .ok (.ishl, 1) := by decide +kernel
theorem dX4_number_97 : decode cX4_number 97 = .ok (.iconst 1, 1) := by decide +kernel
theorem dX4_number_98 : decode cX4_number 98 = .ok (.isub, 1) := by decide +kernel
theorem dX4_number_99 : decode cX4_number 99 = .ok (.iand, 1) := by decide +kernel
theorem dX4_number_100 : decode cX4_number 100 = .ok (.i2l, 1) := by decide +kernel
theorem dX4_number_101 : decode cX4_number 101 = .ok (.lor, 1) := by decide +kernel
theorem dX4_number_102 : decode cX4_number 102 = .ok (.lstore_n 2, 1) := by decide +kernel
theorem dX4_number_103 : decode cX4_number 103 = .ok (.iload 4, 2) := by decide +kernel
theorem dX4_number_105 : decode cX4_number 105 = .ok (.iload 6, 2) := by decide +kernel
theorem dX4_number_107 : decode cX4_number 107 = .ok (.isub, 1) := by decide +kernel
theorem dX4_number_108 : decode cX4_number 108 = .ok (.istore 4, 2) := by decide +kernel
theorem dX4_number_110 : decode cX4_number 110 = .ok (.aload_n 0, 1) := by decide +kernel
theorem dX4_number_111 : decode cX4_number 111 = .ok (.dup, 1) := by decide +kernel
theorem dX4_number_112 : decode cX4_number 112 = .ok (.getfield 64, 3) := by decide +kernel
theorem dX4_number_115 : decode cX4_number 115 = .ok (.iload 6, 2) := by decide +kernel
theorem dX4_number_117 : decode cX4_number 117 = .ok (.iadd, 1) := by decide +kernel
theorem dX4_number_118 : decode cX4_number 118 = .ok (.putfield 64, 3) := by decide +kernel
theorem dX4_number_121 : decode cX4_number 121 = .ok (.goto (-83), 3) := by decide +kernel
theorem dX4_number_124 : decode cX4_number 124 = .ok (.lload_n 2, 1) := by decide +kernel
theorem dX4_number_125 : decode cX4_number 125 = .ok (.lreturn, 1) := by decide +kernel
theorem dX4_zerosAndOne_0 : decode cX4_zerosAndOne 0 = .ok (.aload_n 0, 1) := by decide +kernel
theorem dX4_zerosAndOne_1 : decode cX4_zerosAndOne 1 = .ok (.aload_n 0, 1) := by decide +kernel
theorem dX4_zerosAndOne_2 : decode cX4_zerosAndOne 2 = .ok (.getfield 64, 3) := by decide +kernel
theorem dX4_zerosAndOne_5 : decode cX4_zerosAndOne 5 = .ok (.putfield 92, 3) := by decide +kernel
theorem dX4_zerosAndOne_8 : decode cX4_zerosAndOne 8 = .ok (.bipush 8, 2) := by decide +kernel
theorem dX4_zerosAndOne_10 : decode cX4_zerosAndOne 10 = .ok (.aload_n 0, 1) := by decide +kernel
theorem dX4_zerosAndOne_11 : decode cX4_zerosAndOne 11 = .ok (.getfield 15, 3) := by decide +kernel
theorem dX4_zerosAndOne_14 : decode cX4_zerosAndOne 14 = .ok (.imul, 1) := by decide +kernel
theorem dX4_zerosAndOne_15 : decode cX4_zerosAndOne 15 = .ok (.istore_n 1, 1) := by decide +kernel
theorem dX4_zerosAndOne_16 : decode cX4_zerosAndOne 16 = .ok (.aload_n 0, 1) := by decide +kernel
theorem dX4_zerosAndOne_17 : decode cX4_zerosAndOne 17 = .ok (.getfield 64, 3) := by decide +kernel
theorem dX4_zerosAndOne_20 : decode cX4_zerosAndOne 20 = .ok (.iload_n 1, 1) := by decide +kernel
theorem dX4_zerosAndOne_21 : decode cX4_zerosAndOne 21 = .ok (.if_icmp .ge 72, 3) := by decide +kernel
theorem dX4_zerosAndOne_24 : decode cX4_zerosAndOne 24 = .ok (.aload_n 0, 1) := by decide +kernel
theorem dX4_zerosAndOne_25 : decode cX4_zerosAndOne 25 = .ok (.getfield 9, 3) := by decide +kernel
theorem dX4_zerosAndOne_28 : decode cX4_zerosAndOne 28 = .ok (.aload_n 0, 1) := by decide +kernel
theorem dX4_zerosAndOne_29 : decode cX4_zerosAndOne 29 = .ok (.getfield 64, 3) := by decide +kernel
theorem dX4_zerosAndOne_32 : decode cX4_zerosAndOne 32 = .ok (.iconst 3, 1) := by decide +kernel
theorem dX4_zerosAndOne_33 : decode cX4_zerosAndOne 33 = .ok (.ishr, 1) := by decide +kernel
theorem dX4_zerosAndOne_34 : decode cX4_zerosAndOne 34 = .ok (.baload, 1) := by decide +kernel
theorem dX4_zerosAndOne_35 : decode cX4_zerosAndOne 35 = .ok (.bipush 7, 2) := by decide +kernel
theorem dX4_zerosAndOne_37 : decode cX4_zerosAndOne 37 = .ok (.aload_n 0, 1) := by decide +kernel
theorem dX4_zerosAndOne_38 : decode cX4_zerosAndOne 38 = .ok (.getfield 64, 3) := by decide +kernel
theorem dX4_zerosAndOne_41 : decode cX4_zerosAndOne 41 = .ok (.bipush 7, 2) := by decide +kernel
theorem dX4_zerosAndOne_43 : decode cX4_zerosAndOne 43 = .ok (.iand, 1) := by decide +kernel
theorem dX4_zerosAndOne_44 : decode cX4_zerosAndOne 44 = .ok (.isub, 1) := by decide +kernel
theorem dX4_zerosAndOne_45 : decode cX4_zerosAndOne 45 = .ok (.ishr, 1) := by decide +kernel
theorem dX4_zerosAndOne_46 : decode cX4_zerosAndOne 46 = .ok (.iconst 1, 1) := by decide +kernel
theorem dX4_zerosAndOne_47 : decode cX4_zerosAndOne 47 = .ok (.iand, 1) := by decide +kernel
theorem dX4_zerosAndOne_48 : decode cX4_zerosAndOne 48 = .ok (.ifCond .ne 45, 3) := by decide +kernel
theorem dX4_zerosAndOne_51 : decode cX4_zerosAndOne 51 = .ok (.aload_n 0, 1) := by decide +kernel
theorem dX4_zerosAndOne_52 : decode cX4_zerosAndOne 52 = .ok (.dup, 1) := by decide +kernel
theorem dX4_zerosAndOne_53 : decode cX4_zerosAndOne 53 = .ok (.getfield 64, 3) := by decide +kernel
theorem dX4_zerosAndOne_56 : decode cX4_zerosAndOne 56 = .ok (.aload_n 0, 1) := by decide +kernel
theorem dX4_zerosAndOne_57 : decode cX4_zerosAndOne 57 = .ok (.getfield 64, 3) := by decide +kernel
theorem dX4_zerosAndOne_60 : decode cX4_zerosAndOne 60 = .ok (.bipush 7, 2) := by decide +kernel
theorem dX4_zerosAndOne_62 : decode cX4_zerosAndOne 62 = .ok (.iand, 1) := by decide +kernel
theorem dX4_zerosAndOne_63 : decode cX4_zerosAndOne 63 = .ok (.ifCond .ne 22, 3) := by decide +kernel
theorem dX4_zerosAndOne_66 : decode cX4_zerosAndOne 66 = .ok (.aload_n 0, 1) := by decide +kernel
theorem dX4_zerosAndOne_67 : decode cX4_zerosAndOne 67 = .ok (.getfield 9, 3) := by decide +kernel
theorem dX4_zerosAndOne_70 : decode cX4_zerosAndOne 70 = .ok (.aload_n 0, 1) := by decide +kernel
theorem dX4_zerosAndOne_71 : decode cX4_zerosAndOne 71 = .ok (.getfield 64, 3) := by decide +kernel
theorem dX4_zerosAndOne_74 : decode cX4_zerosAndOne 74 = .ok (.iconst 3, 1) := by decide +kernel
theorem dX4_zerosAndOne_75 : decode cX4_zerosAndOne 75 = .ok (.ishr, 1) := by decide +kernel
theorem dX4_zerosAndOne_76 : decode cX4_zerosAndOne 76 = .ok (.baload, 1) := by decide +kernel
theorem dX4_zerosAndOne_77 : decode cX4_zerosAndOne 77 = .ok (.ifCond .ne 8, 3) := by decide +kernel
theorem dX4_zerosAndOne_80 : decode cX4_zerosAndOne 80 = .ok (.bipush 8, 2) := by decide +kernel
theorem dX4_zerosAndOne_82 : decode cX4_zerosAndOne 82 = .ok (.goto 4, 3) := by decide +kernel
theorem dX4_zerosAndOne_85 : decode cX4_zerosAndOne 85 = .ok (.iconst 1, 1) := by decide +kernel
theorem dX4_zerosAndOne_86 : decode cX4_zerosAndOne 86 = .ok (.iadd, 1) := by decide +kernel
theorem dX4_zerosAndOne_87 : decode cX4_zerosAndOne 87 = .ok (.putfield 64, 3) := by decide +kernel
theorem dX4_zerosAndOne_90 : decode cX4_zerosAndOne 90 = .ok (.goto (-74), 3) := by decide +kernel
theorem dX4_zerosAndOne_93 : decode cX4_zerosAndOne 93 = .ok (.aload_n 0, 1) := by decide +kernel
theorem dX4_zerosAndOne_94 : decode cX4_zerosAndOne 94 = .ok (.getfield 64, 3) := by decide +kernel
theorem dX4_zerosAndOne_97 : decode cX4_zerosAndOne 97 = .ok (.iload_n 1, 1) := by decide +kernel
theorem dX4_zerosAndOne_98 : decode cX4_zerosAndOne 98 = .ok (.if_icmp .lt 12, 3) := by decide +kernel
theorem dX4_zerosAndOne_101 : decode cX4_zerosAndOne 101 = .ok (.aload_n 0, 1) := by decide +kernel
theorem dX4_zerosAndOne_102 : decode cX4_zerosAndOne 102 = .ok (.iconst 1, 1) := by decide +kernel
theorem dX4_zerosAndOne_103 : decode cX4_zerosAndOne 103 = .ok (.aload_n 0, 1) := by decide +kernel
theorem dX4_zerosAndOne_104 : decode cX4_zerosAndOne 104 = .ok (.getfield 92, 3) := by decide +kernel
theorem dX4_zerosAndOne_107 : decode cX4_zerosAndOne 107 = .ok (.invokevirtual 95, 3) := by decide +kernel
theorem dX4_zerosAndOne_110 : decode cX4_zerosAndOne 110 = .ok (.aload_n 0, 1) := by decide +kernel
theorem dX4_zerosAndOne_111 : decode cX4_zerosAndOne 111 = .ok (.dup, 1) := by decide +kernel
theorem dX4_zerosAndOne_112 : decode cX4_zerosAndOne 112 = .ok (.getfield 64, 3) := by decide +kernel
theorem dX4_zerosAndOne_115 : decode cX4_zerosAndOne 115 = .ok (.iconst 1, 1) := by decide +kernel
theorem dX4_zerosAndOne_116 : decode cX4_zerosAndOne 116 = .ok (.iadd, 1) := by decide +kernel
theorem dX4_zerosAndOne_117 : decode cX4_zerosAndOne 117 = .ok (.putfield 64, 3) := by decide +kernel
theorem dX4_zerosAndOne_120 : decode cX4_zerosAndOne 120 = .ok (.aload_n 0, 1) := by decide +kernel
theorem dX4_zerosAndOne_121 : decode cX4_zerosAndOne 121 = .ok (.getfield 64, 3) := by decide +kernel
theorem dX4_zerosAndOne_124 : decode cX4_zerosAndOne 124 = .ok (.iconst 1, 1) := by decide +kernel
theorem dX4_zerosAndOne_125 : decode cX4_zerosAndOne 125 = .ok (.isub, 1) := by decide +kernel
theorem dX4_zerosAndOne_126 : decode cX4_zerosAndOne 126 = .ok (.aload_n 0, 1) := by decide +kernel
theorem dX4_zerosAndOne_127 : decode cX4_zerosAndOne 127 = .ok (.getfield 92, 3) := by decide +kernel
theorem dX4_zerosAndOne_130 : decode cX4_zerosAndOne 130 = .ok (.isub, 1) := by decide +kernel
theorem dX4_zerosAndOne_131 : decode cX4_zerosAndOne 131 = .ok (.ireturn, 1) := by decide +kernel
theorem dX4_pass_0 : decode cX4_pass 0 = .ok (.iload_n 1, 1) := by decide +kernel
theorem dX4_pass_1 : decode cX4_pass 1 = .ok (.bipush 8, 2) := by decide +kernel
theorem dX4_pass_3 : decode cX4_pass 3 = .ok (.aload_n 0, 1) := by decide +kernel
theorem dX4_pass_4 : decode cX4_pass 4 = .ok (.getfield 15, 3) := by decide +kernel
theorem dX4_pass_7 : decode cX4_pass 7 = .ok (.imul, 1) := by decide +kernel
theorem dX4_pass_8 : decode cX4_pass 8 = .ok (.aload_n 0, 1) := by decide +kernel
theorem dX4_pass_9 : decode cX4_pass 9 = .ok (.getfield 64, 3) := by decide +kernel
theorem dX4_pass_12 : decode cX4_pass 12 = .ok (.isub, 1) := by decide +kernel
theorem dX4_pass_13 : decode cX4_pass 13 = .ok (.if_icmp .le 12, 3) := by decide +kernel
theorem dX4_pass_16 : decode cX4_pass 16 = .ok (.aload_n 0, 1) := by decide +kernel
theorem dX4_pass_17 : decode cX4_pass 17 = .ok (.iconst 1, 1) := by decide +kernel
theorem dX4_pass_18 : decode cX4_pass 18 = .ok (.aload_n 0, 1) := by decide +kernel
theorem dX4_pass_19 : decode cX4_pass 19 = .ok (.getfield 64, 3) := by decide +kernel
theorem dX4_pass_22 : decode cX4_pass 22 = .ok (.invokevirtual 95, 3) := by decide +kernel
theorem dX4_pass_25 : decode cX4_pass 25 = .ok (.aload_n 0, 1) := by decide +kernel
theorem dX4_pass_26 : decode cX4_pass 26 = .ok (.dup, 1) := by decide +kernel
theorem dX4_pass_27 : decode cX4_pass 27 = .ok (.getfield 64, 3) := by decide +kernel
theorem dX4_pass_30 : decode cX4_pass 30 = .ok (.iload_n 1, 1) := by decide +kernel
theorem dX4_pass_31 : decode cX4_pass 31 = .ok (.iadd, 1) := by decide +kernel
theorem dX4_pass_32 : decode cX4_pass 32 = .ok (.putfield 64, 3) := by decide +kernel
theorem dX4_pass_35 : decode cX4_pass 35 = .ok (.return_, 1) := by decide +kernel
theorem dX4_expect_0 : decode cX4_expect 0 = .ok (.aload_n 0, 1) := by decide +kernel
theorem dX4_expect_1 : decode cX4_expect 1 = .ok (.iload_n 1, 1) := by decide +kernel
theorem dX4_expect_2 : decode cX4_expect 2 = .ok (.invokevirtual 98, 3) := by decide +kernel
theorem dX4_expect_5 : decode cX4_expect 5 = .ok (.lload_n 2, 1) := by decide +kernel
theorem dX4_expect_6 : decode cX4_expect 6 = .ok (.lcmp, 1) := by decide +kernel
theorem dX4_expect_7 : decode cX4_expect 7 = .ok (.ifCond .eq 12, 3) := by decide +kernel
theorem dX4_expect_10 : decode cX4_expect 10 = .ok (.aload_n 0, 1) := by decide +kernel
theorem dX4_expect_11 : decode cX4_expect 11 = .ok (.iconst 2, 1) := by decide +kernel
theorem dX4_expect_12 : decode cX4_expect 12 = .ok (.aload_n 0, 1) := by decide +kernel
theorem dX4_expect_13 : decode cX4_expect 13 = .ok (.getfield 92, 3) := by decide +kernel
theorem dX4_expect_16 : decode cX4_expect 16 = .ok (.invokevirtual 95, 3) := by decide +kernel
theorem dX4_expect_19 : decode cX4_expect 19 = .ok (.return_, 1) := by decide +kernel
theorem dX4_signed_0 : decode cX4_signed 0 = .ok (.iload_n 2, 1) := by decide +kernel
theorem dX4_signed_1 : decode cX4_signed 1 = .ok (.ifCond .le 24, 3) := by decide +kernel
theorem dX4_signed_4 : decode cX4_signed 4 = .ok (.lload_n 0, 1) := by decide +kernel
theorem dX4_signed_5 : decode cX4_signed 5 = .ok (.iload_n 2, 1) := by decide +kernel
theorem dX4_signed_6 : decode cX4_signed 6 = .ok (.iconst 1, 1) := by decide +kernel
theorem dX4_signed_7 : decode cX4_signed 7 = .ok (.isub, 1) := by decide +kernel
theorem dX4_signed_8 : decode cX4_signed 8 = .ok (.lshr, 1) := by decide +kernel
theorem dX4_signed_9 : decode cX4_signed 9 = .ok (.lconst 1, 1) := by decide +kernel
theorem dX4_signed_10 : decode cX4_signed 10 = .ok (.land, 1) := by decide +kernel
theorem dX4_signed_11 : decode cX4_signed 11 = .ok (.lconst 1, 1) := by decide +kernel
theorem dX4_signed_12 : decode cX4_signed 12 = .ok (.lcmp, 1) := by decide +kernel
theorem dX4_signed_13 : decode cX4_signed 13 = .ok (.ifCond .ne 12, 3) := by decide +kernel
theorem dX4_signed_16 : decode cX4_signed 16 = .ok (.lload_n 0, 1) := by decide +kernel
theorem dX4_signed_17 : decode cX4_signed 17 = .ok (.lconst 1, 1) := by decide +kernel
theorem dX4_signed_18 : decode cX4_signed 18 = .ok (.iload_n 2, 1) := by decide +kernel
theorem dX4_signed_19 : decode cX4_signed 19 = .ok (.lshl, 1) := by decide +kernel
theorem dX4_signed_20 : decode cX4_signed 20 = .ok (.lsub, 1) := by decide +kernel
theorem dX4_signed_21 : decode cX4_signed 21 = .ok (.l2i, 1) := by decide +kernel
theorem dX4_signed_22 : decode cX4_signed 22 = .ok (.goto 5, 3) := by decide +kernel
theorem dX4_signed_25 : decode cX4_signed 25 = .ok (.lload_n 0, 1) := by decide +kernel
theorem dX4_signed_26 : decode cX4_signed 26 = .ok (.l2i, 1) := by decide +kernel
theorem dX4_signed_27 : decode cX4_signed 27 = .ok (.ireturn, 1) := by decide +kernel
theorem dX4_unfolded_0 : decode cX4_unfolded 0 = .ok (.lload_n 0, 1) := by decide +kernel
theorem dX4_unfolded_1 : decode cX4_unfolded 1 = .ok (.lconst 1, 1) := by decide +kernel
theorem dX4_unfolded_2 : decode cX4_unfolded 2 = .ok (.land, 1) := by decide +kernel
theorem dX4_unfolded_3 : decode cX4_unfolded 3 = .ok (.lconst 0, 1) := by decide +kernel
theorem dX4_unfolded_4 : decode cX4_unfolded 4 = .ok (.lcmp, 1) := by decide +kernel
theorem dX4_unfolded_5 : decode cX4_unfolded 5 = .ok (.ifCond .ne 9, 3) := by decide +kernel
theorem dX4_unfolded_8 : decode cX4_unfolded 8 = .ok (.lload_n 0, 1) := by decide +kernel
theorem dX4_unfolded_9 : decode cX4_unfolded 9 = .ok (.iconst 1, 1) := by decide +kernel
theorem dX4_unfolded_10 : decode cX4_unfolded 10 = .ok (.lshr, 1) := by decide +kernel
theorem dX4_unfolded_11 : decode cX4_unfolded 11 = .ok (.goto 9, 3) := by decide +kernel
theorem dX4_unfolded_14 : decode cX4_unfolded 14 = .ok (.lload_n 0, 1) := by decide +kernel
theorem dX4_unfolded_15 : decode cX4_unfolded 15 = .ok (.iconst 1, 1) := by decide +kernel
theorem dX4_unfolded_16 : decode cX4_unfolded 16 = .ok (.lshr, 1) := by decide +kernel
theorem dX4_unfolded_17 : decode cX4_unfolded 17 = .ok (.lneg, 1) := by decide +kernel
theorem dX4_unfolded_18 : decode cX4_unfolded 18 = .ok (.lconst 1, 1) := by decide +kernel
theorem dX4_unfolded_19 : decode cX4_unfolded 19 = .ok (.lsub, 1) := by decide +kernel
theorem dX4_unfolded_20 : decode cX4_unfolded 20 = .ok (.lreturn, 1) := by decide +kernel
theorem dX4_openStream_0 : decode cX4_openStream 0 = .ok (.aload_n 0, 1) := by decide +kernel
theorem dX4_openStream_1 : decode cX4_openStream 1 = .ok (.bipush 32, 2) := by decide +kernel
theorem dX4_openStream_3 : decode cX4_openStream 3 = .ok (.ldc2_w 102, 3) := by decide +kernel
theorem dX4_openStream_6 : decode cX4_openStream 6 = .ok (.invokevirtual 104, 3) := by decide +kernel
theorem dX4_openStream_9 : decode cX4_openStream 9 = .ok (.aload_n 0, 1) := by decide +kernel
theorem dX4_openStream_10 : decode cX4_openStream 10 = .ok (.iconst 1, 1) := by decide +kernel
theorem dX4_openStream_11 : decode cX4_openStream 11 = .ok (.invokevirtual 98, 3) := by decide +kernel
theorem dX4_openStream_14 : decode cX4_openStream 14 = .ok (.lconst 1, 1) := by decide +kernel
theorem dX4_openStream_15 : decode cX4_openStream 15 = .ok (.lcmp, 1) := by decide +kernel
theorem dX4_openStream_16 : decode cX4_openStream 16 = .ok (.ifCond .ne 7, 3) := by decide +kernel
theorem dX4_openStream_19 : decode cX4_openStream 19 = .ok (.iconst 1, 1) := by decide +kernel
theorem dX4_openStream_20 : decode cX4_openStream 20 = .ok (.goto 4, 3) := by decide +kernel
theorem dX4_openStream_23 : decode cX4_openStream 23 = .ok (.iconst 0, 1) := by decide +kernel
theorem dX4_openStream_24 : decode cX4_openStream 24 = .ok (.istore_n 1, 1) := by decide +kernel
theorem dX4_openStream_25 : decode cX4_openStream 25 = .ok (.aload_n 0, 1) := by decide +kernel
theorem dX4_openStream_26 : decode cX4_openStream 26 = .ok (.bipush 7, 2) := by decide +kernel
theorem dX4_openStream_28 : decode cX4_openStream 28 = .ok (.lconst 0, 1) := by decide +kernel
theorem dX4_openStream_29 : decode cX4_openStream 29 = .ok (.invokevirtual 104, 3) := by decide +kernel
theorem dX4_openStream_32 : decode cX4_openStream 32 = .ok (.aload_n 0, 1) := by decide +kernel
theorem dX4_openStream_33 : decode cX4_openStream 33 = .ok (.bipush 24, 2) := by decide +kernel
theorem dX4_openStream_35 : decode cX4_openStream 35 = .ok (.ldc2_w 108, 3) := by decide +kernel
theorem dX4_openStream_38 : decode cX4_openStream 38 = .ok (.invokevirtual 104, 3) := by decide +kernel
theorem dX4_openStream_41 : decode cX4_openStream 41 = .ok (.aload_n 0, 1) := by decide +kernel
theorem dX4_openStream_42 : decode cX4_openStream 42 = .ok (.invokevirtual 110, 3) := by decide +kernel
theorem dX4_openStream_45 : decode cX4_openStream 45 = .ok (.iconst 0, 1) := by decide +kernel
theorem dX4_openStream_46 : decode cX4_openStream 46 = .ok (.istore_n 2, 1) := by decide +kernel
theorem dX4_openStream_47 : decode cX4_openStream 47 = .ok (.iload_n 1, 1) := by decide +kernel
theorem dX4_openStream_48 : decode cX4_openStream 48 = .ok (.ifCond .ne 64, 3) := by decide +kernel
theorem dX4_openStream_51 : decode cX4_openStream 51 = .ok (.iload_n 2, 1) := by decide +kernel
theorem dX4_openStream_52 : decode cX4_openStream 52 = .ok (.sipush 5000, 3) := by decide +kernel
theorem dX4_openStream_55 : decode cX4_openStream 55 = .ok (.if_icmp .ge 57, 3) := by decide +kernel
theorem dX4_openStream_58 : decode cX4_openStream 58 = .ok (.aload_n 0, 1) := by decide +kernel
theorem dX4_openStream_59 : decode cX4_openStream 59 = .ok (.iconst 1, 1) := by decide +kernel
theorem dX4_openStream_60 : decode cX4_openStream 60 = .ok (.invokevirtual 98, 3) := by decide +kernel
theorem dX4_openStream_63 : decode cX4_openStream 63 = .ok (.lconst 1, 1) := by decide +kernel
theorem dX4_openStream_64 : decode cX4_openStream 64 = .ok (.lcmp, 1) := by decide +kernel
theorem dX4_openStream_65 : decode cX4_openStream 65 = .ok (.ifCond .ne 7, 3) := by decide +kernel
theorem dX4_openStream_68 : decode cX4_openStream 68 = .ok (.iconst 1, 1) := by decide +kernel
theorem dX4_openStream_69 : decode cX4_openStream 69 = .ok (.goto 4, 3) := by decide +kernel
theorem dX4_openStream_72 : decode cX4_openStream 72 = .ok (.iconst 0, 1) := by decide +kernel
theorem dX4_openStream_73 : decode cX4_openStream 73 = .ok (.istore_n 1, 1) := by decide +kernel
theorem dX4_openStream_74 : decode cX4_openStream 74 = .ok (.aload_n 0, 1) := by decide +kernel
theorem dX4_openStream_75 : decode cX4_openStream 75 = .ok (.aload_n 0, 1) := by decide +kernel
theorem dX4_openStream_76 : decode cX4_openStream 76 = .ok (.bipush 7, 2) := by decide +kernel
theorem dX4_openStream_78 : decode cX4_openStream 78 = .ok (.invokevirtual 98, 3) := by decide +kernel
theorem dX4_openStream_81 : decode cX4_openStream 81 = .ok (.lconst 1, 1) := by decide +kernel
theorem dX4_openStream_82 : decode cX4_openStream 82 = .ok (.ldc2_w 113, 3) := by decide +kernel
theorem dX4_openStream_85 : decode cX4_openStream 85 = .ok (.invokestatic 115, 3) := by decide +kernel
theorem dX4_openStream_88 : decode cX4_openStream 88 = .ok (.iconst 2, 1) := by decide +kernel
theorem dX4_openStream_89 : decode cX4_openStream 89 = .ok (.invokevirtual 119, 3) := by decide +kernel
theorem dX4_openStream_92 : decode cX4_openStream 92 = .ok (.aload_n 0, 1) := by decide +kernel
theorem dX4_openStream_93 : decode cX4_openStream 93 = .ok (.bipush 8, 2) := by decide +kernel
theorem dX4_openStream_95 : decode cX4_openStream 95 = .ok (.aload_n 0, 1) := by decide +kernel
theorem dX4_openStream_96 : decode cX4_openStream 96 = .ok (.bipush 24, 2) := by decide +kernel
theorem dX4_openStream_98 : decode cX4_openStream 98 = .ok (.invokevirtual 98, 3) := by decide +kernel
theorem dX4_openStream_101 : decode cX4_openStream 101 = .ok (.l2i, 1) := by decide +kernel
theorem dX4_openStream_102 : decode cX4_openStream 102 = .ok (.imul, 1) := by decide +kernel
theorem dX4_openStream_103 : decode cX4_openStream 103 = .ok (.invokevirtual 123, 3) := by decide +kernel
theorem dX4_openStream_106 : decode cX4_openStream 106 = .ok (.iinc 2 1, 3) := by decide +kernel
theorem dX4_openStream_109 : decode cX4_openStream 109 = .ok (.goto (-62), 3) := by decide +kernel
theorem dX4_openStream_112 : decode cX4_openStream 112 = .ok (.return_, 1) := by decide +kernel
theorem dX4_readSettings_0 : decode cX4_readSettings 0 = .ok (.aload_n 0, 1) := by decide +kernel
theorem dX4_readSettings_1 : decode cX4_readSettings 1 = .ok (.getfield 28, 3) := by decide +kernel
theorem dX4_readSettings_4 : decode cX4_readSettings 4 = .ok (.aload_n 0, 1) := by decide +kernel
theorem dX4_readSettings_5 : decode cX4_readSettings 5 = .ok (.bipush 16, 2) := by decide +kernel
theorem dX4_readSettings_7 : decode cX4_readSettings 7 = .ok (.invokevirtual 98, 3) := by decide +kernel
theorem dX4_readSettings_10 : decode cX4_readSettings 10 = .ok (.l2i, 1) := by decide +kernel
theorem dX4_readSettings_11 : decode cX4_readSettings 11 = .ok (.putfield 70, 3) := by decide +kernel
theorem dX4_readSettings_14 : decode cX4_readSettings 14 = .ok (.aload_n 0, 1) := by decide +kernel
theorem dX4_readSettings_15 : decode cX4_readSettings 15 = .ok (.aload_n 0, 1) := by decide +kernel
theorem dX4_readSettings_16 : decode cX4_readSettings 16 = .ok (.getfield 28, 3) := by decide +kernel
theorem dX4_readSettings_19 : decode cX4_readSettings 19 = .ok (.getfield 70, 3) := by decide +kernel
theorem dX4_readSettings_22 : decode cX4_readSettings 22 = .ok (.i2l, 1) := by decide +kernel
theorem dX4_readSettings_23 : decode cX4_readSettings 23 = .ok (.ldc2_w 126, 3) := by decide +kernel
theorem dX4_readSettings_26 : decode cX4_readSettings 26 = .ok (.ldc2_w 128, 3) := by decide +kernel
theorem dX4_readSettings_29 : decode cX4_readSettings 29 = .ok (.invokestatic 115, 3) := by decide +kernel
theorem dX4_readSettings_32 : decode cX4_readSettings 32 = .ok (.iconst 2, 1) := by decide +kernel
theorem dX4_readSettings_33 : decode cX4_readSettings 33 = .ok (.invokevirtual 119, 3) := by decide +kernel
theorem dX4_readSettings_36 : decode cX4_readSettings 36 = .ok (.aload_n 0, 1) := by decide +kernel
theorem dX4_readSettings_37 : decode cX4_readSettings 37 = .ok (.bipush 16, 2) := by decide +kernel
theorem dX4_readSettings_39 : decode cX4_readSettings 39 = .ok (.aload_n 0, 1) := by decide +kernel
theorem dX4_readSettings_40 : decode cX4_readSettings 40 = .ok (.getfield 28, 3) := by decide +kernel
theorem dX4_readSettings_43 : decode cX4_readSettings 43 = .ok (.getfield 70, 3) := by decide +kernel
theorem dX4_readSettings_46 : decode cX4_readSettings 46 = .ok (.i2l, 1) := by decide +kernel
theorem dX4_readSettings_47 : decode cX4_readSettings 47 = .ok (.invokevirtual 104, 3) := by decide +kernel
theorem dX4_readSettings_50 : decode cX4_readSettings 50 = .ok (.aload_n 0, 1) := by decide +kernel
theorem dX4_readSettings_51 : decode cX4_readSettings 51 = .ok (.bipush 24, 2) := by decide +kernel
theorem dX4_readSettings_53 : decode cX4_readSettings 53 = .ok (.invokevirtual 123, 3) := by decide +kernel
theorem dX4_readSettings_56 : decode cX4_readSettings 56 = .ok (.aload_n 0, 1) := by decide +kernel
theorem dX4_readSettings_57 : decode cX4_readSettings 57 = .ok (.bipush 24, 2) := by decide +kernel
theorem dX4_readSettings_59 : decode cX4_readSettings 59 = .ok (.invokevirtual 123, 3) := by decide +kernel
theorem dX4_readSettings_62 : decode cX4_readSettings 62 = .ok (.aload_n 0, 1) := by decide +kernel
theorem dX4_readSettings_63 : decode cX4_readSettings 63 = .ok (.getfield 28, 3) := by decide +kernel
theorem dX4_readSettings_66 : decode cX4_readSettings 66 = .ok (.aload_n 0, 1) := by decide +kernel
theorem dX4_readSettings_67 : decode cX4_readSettings 67 = .ok (.bipush 20, 2) := by decide +kernel
theorem dX4_readSettings_69 : decode cX4_readSettings 69 = .ok (.invokevirtual 98, 3) := by decide +kernel
theorem dX4_readSettings_72 : decode cX4_readSettings 72 = .ok (.l2i, 1) := by decide +kernel
theorem dX4_readSettings_73 : decode cX4_readSettings 73 = .ok (.putfield 130, 3) := by decide +kernel
theorem dX4_readSettings_76 : decode cX4_readSettings 76 = .ok (.aload_n 0, 1) := by decide +kernel
theorem dX4_readSettings_77 : decode cX4_readSettings 77 = .ok (.aload_n 0, 1) := by decide +kernel
theorem dX4_readSettings_78 : decode cX4_readSettings 78 = .ok (.getfield 28, 3) := by decide +kernel
theorem dX4_readSettings_81 : decode cX4_readSettings 81 = .ok (.getfield 130, 3) := by decide +kernel
theorem dX4_readSettings_84 : decode cX4_readSettings 84 = .ok (.i2l, 1) := by decide +kernel
theorem dX4_readSettings_85 : decode cX4_readSettings 85 = .ok (.lconst 1, 1) := by decide +kernel
theorem dX4_readSettings_86 : decode cX4_readSettings 86 = .ok (.ldc2_w 133, 3) := by decide +kernel
theorem dX4_readSettings_89 : decode cX4_readSettings 89 = .ok (.invokestatic 115, 3) := by decide +kernel
theorem dX4_readSettings_92 : decode cX4_readSettings 92 = .ok (.iconst 2, 1) := by decide +kernel
theorem dX4_readSettings_93 : decode cX4_readSettings 93 = .ok (.invokevirtual 119, 3) := by decide +kernel
theorem dX4_readSettings_96 : decode cX4_readSettings 96 = .ok (.aload_n 0, 1) := by decide +kernel
theorem dX4_readSettings_97 : decode cX4_readSettings 97 = .ok (.getfield 28, 3) := by decide +kernel
theorem dX4_readSettings_100 : decode cX4_readSettings 100 = .ok (.aload_n 0, 1) := by decide +kernel
theorem dX4_readSettings_101 : decode cX4_readSettings 101 = .ok (.iconst 3, 1) := by decide +kernel
theorem dX4_readSettings_102 : decode cX4_readSettings 102 = .ok (.invokevirtual 98, 3) := by decide +kernel
theorem dX4_readSettings_105 : decode cX4_readSettings 105 = .ok (.l2i, 1) := by decide +kernel
theorem dX4_readSettings_106 : decode cX4_readSettings 106 = .ok (.iconst 1, 1) := by decide +kernel
theorem dX4_readSettings_107 : decode cX4_readSettings 107 = .ok (.iadd, 1) := by decide +kernel
theorem dX4_readSettings_108 : decode cX4_readSettings 108 = .ok (.putfield 135, 3) := by decide +kernel
theorem dX4_readSettings_111 : decode cX4_readSettings 111 = .ok (.aload_n 0, 1) := by decide +kernel
theorem dX4_readSettings_112 : decode cX4_readSettings 112 = .ok (.getfield 28, 3) := by decide +kernel
theorem dX4_readSettings_115 : decode cX4_readSettings 115 = .ok (.aload_n 0, 1) := by decide +kernel
theorem dX4_readSettings_116 : decode cX4_readSettings 116 = .ok (.iconst 5, 1) := by decide +kernel
theorem dX4_readSettings_117 : decode cX4_readSettings 117 = .ok (.invokevirtual 98, 3) := by decide +kernel
theorem dX4_readSettings_120 : decode cX4_readSettings 120 = .ok (.l2i, 1) := by decide +kernel
theorem dX4_readSettings_121 : decode cX4_readSettings 121 = .ok (.iconst 1, 1) := by decide +kernel
theorem dX4_readSettings_122 : decode cX4_readSettings 122 = .ok (.iadd, 1) := by decide +kernel
theorem dX4_readSettings_123 : decode cX4_readSettings 123 = .ok (.putfield 138, 3) := by decide +kernel
theorem dX4_readSettings_126 : decode cX4_readSettings 126 = .ok (.aload_n 0, 1) := by decide +kernel
theorem dX4_readSettings_127 : decode cX4_readSettings 127 = .ok (.aload_n 0, 1) := by decide +kernel
theorem dX4_readSettings_128 : decode cX4_readSettings 128 = .ok (.getfield 28, 3) := by decide +kernel
theorem dX4_readSettings_131 : decode cX4_readSettings 131 = .ok (.getfield 138, 3) := by decide +kernel
theorem dX4_readSettings_134 : decode cX4_readSettings 134 = .ok (.i2l, 1) := by decide +kernel
theorem dX4_readSettings_135 : decode cX4_readSettings 135 = .ok (.ldc2_w 141, 3) := by decide +kernel
theorem dX4_readSettings_138 : decode cX4_readSettings 138 = .ok (.ldc2_w 143, 3) := by decide +kernel
theorem dX4_readSettings_141 : decode cX4_readSettings 141 = .ok (.invokestatic 115, 3) := by decide +kernel
theorem dX4_readSettings_144 : decode cX4_readSettings 144 = .ok (.iconst 2, 1) := by decide +kernel
theorem dX4_readSettings_145 : decode cX4_readSettings 145 = .ok (.invokevirtual 119, 3) := by decide +kernel
theorem dX4_readSettings_148 : decode cX4_readSettings 148 = .ok (.aload_n 0, 1) := by decide +kernel
theorem dX4_readSettings_149 : decode cX4_readSettings 149 = .ok (.bipush 36, 2) := by decide +kernel
theorem dX4_readSettings_151 : decode cX4_readSettings 151 = .ok (.invokevirtual 98, 3) := by decide +kernel
theorem dX4_readSettings_154 : decode cX4_readSettings 154 = .ok (.lstore_n 1, 1) := by decide +kernel
theorem dX4_readSettings_155 : decode cX4_readSettings 155 = .ok (.aload_n 0, 1) := by decide +kernel
theorem dX4_readSettings_156 : decode cX4_readSettings 156 = .ok (.lload_n 1, 1) := by decide +kernel
theorem dX4_readSettings_157 : decode cX4_readSettings 157 = .ok (.aload_n 0, 1) := by decide +kernel
theorem dX4_readSettings_158 : decode cX4_readSettings 158 = .ok (.getfield 28, 3) := by decide +kernel
theorem dX4_readSettings_161 : decode cX4_readSettings 161 = .ok (.getfield 135, 3) := by decide +kernel
theorem dX4_readSettings_164 : decode cX4_readSettings 164 = .ok (.i2l, 1) := by decide +kernel
theorem dX4_readSettings_165 : decode cX4_readSettings 165 = .ok (.lmul, 1) := by decide +kernel
theorem dX4_readSettings_166 : decode cX4_readSettings 166 = .ok (.ldc2_w 145, 3) := by decide +kernel
theorem dX4_readSettings_169 : decode cX4_readSettings 169 = .ok (.lcmp, 1) := by decide +kernel
theorem dX4_readSettings_170 : decode cX4_readSettings 170 = .ok (.ifCond .gt 7, 3) := by decide +kernel
theorem dX4_readSettings_173 : decode cX4_readSettings 173 = .ok (.iconst 1, 1) := by decide +kernel
theorem dX4_readSettings_174 : decode cX4_readSettings 174 = .ok (.goto 4, 3) := by decide +kernel
theorem dX4_readSettings_177 : decode cX4_readSettings 177 = .ok (.iconst 0, 1) := by decide +kernel
theorem dX4_readSettings_178 : decode cX4_readSettings 178 = .ok (.iconst 4, 1) := by decide +kernel
theorem dX4_readSettings_179 : decode cX4_readSettings 179 = .ok (.invokevirtual 119, 3) := by decide +kernel
theorem dX4_readSettings_182 : decode cX4_readSettings 182 = .ok (.aload_n 0, 1) := by decide +kernel
theorem dX4_readSettings_183 : decode cX4_readSettings 183 = .ok (.lload_n 1, 1) := by decide +kernel
theorem dX4_readSettings_184 : decode cX4_readSettings 184 = .ok (.l2i, 1) := by decide +kernel
theorem dX4_readSettings_185 : decode cX4_readSettings 185 = .ok (.putfield 73, 3) := by decide +kernel
theorem dX4_readSettings_188 : decode cX4_readSettings 188 = .ok (.aload_n 0, 1) := by decide +kernel
theorem dX4_readSettings_189 : decode cX4_readSettings 189 = .ok (.sipush 128, 3) := by decide +kernel
theorem dX4_readSettings_192 : decode cX4_readSettings 192 = .ok (.invokevirtual 123, 3) := by decide +kernel
theorem dX4_readSettings_195 : decode cX4_readSettings 195 = .ok (.return_, 1) := by decide +kernel
theorem dX4_expectEnd_0 : decode cX4_expectEnd 0 = .ok (.aload_n 0, 1) := by decide +kernel
theorem dX4_expectEnd_1 : decode cX4_expectEnd 1 = .ok (.getfield 64, 3) := by decide +kernel
theorem dX4_expectEnd_4 : decode cX4_expectEnd 4 = .ok (.bipush 8, 2) := by decide +kernel
theorem dX4_expectEnd_6 : decode cX4_expectEnd 6 = .ok (.aload_n 0, 1) := by decide +kernel
theorem dX4_expectEnd_7 : decode cX4_expectEnd 7 = .ok (.getfield 15, 3) := by decide +kernel
theorem dX4_expectEnd_10 : decode cX4_expectEnd 10 = .ok (.imul, 1) := by decide +kernel
theorem dX4_expectEnd_11 : decode cX4_expectEnd 11 = .ok (.if_icmp .eq 12, 3) := by decide +kernel
theorem dX4_expectEnd_14 : decode cX4_expectEnd 14 = .ok (.aload_n 0, 1) := by decide +kernel
theorem dX4_expectEnd_15 : decode cX4_expectEnd 15 = .ok (.iconst 2, 1) := by decide +kernel
theorem dX4_expectEnd_16 : decode cX4_expectEnd 16 = .ok (.aload_n 0, 1) := by decide +kernel
theorem dX4_expectEnd_17 : decode cX4_expectEnd 17 = .ok (.getfield 64, 3) := by decide +kernel
theorem dX4_expectEnd_20 : decode cX4_expectEnd 20 = .ok (.invokevirtual 95, 3) := by decide +kernel
theorem dX4_expectEnd_23 : decode cX4_expectEnd 23 = .ok (.return_, 1) := by decide +kernel
theorem dX4_readFrame_0 : decode cX4_readFrame 0 = .ok (.aload_n 0, 1) := by decide +kernel
theorem dX4_readFrame_1 : decode cX4_readFrame 1 = .ok (.getfield 64, 3) := by decide +kernel
theorem dX4_readFrame_4 : decode cX4_readFrame 4 = .ok (.iconst 3, 1) := by decide +kernel
theorem dX4_readFrame_5 : decode cX4_readFrame 5 = .ok (.ishr, 1) := by decide +kernel
theorem dX4_readFrame_6 : decode cX4_readFrame 6 = .ok (.istore_n 3, 1) := by decide +kernel
theorem dX4_readFrame_7 : decode cX4_readFrame 7 = .ok (.aload_n 0, 1) := by decide +kernel
theorem dX4_readFrame_8 : decode cX4_readFrame 8 = .ok (.iload_n 1, 1) := by decide +kernel
theorem dX4_readFrame_9 : decode cX4_readFrame 9 = .ok (.iload_n 2, 1) := by decide +kernel
theorem dX4_readFrame_10 : decode cX4_readFrame 10 = .ok (.invokevirtual 147, 3) := by decide +kernel
theorem dX4_readFrame_13 : decode cX4_readFrame 13 = .ok (.istore 4, 2) := by decide +kernel
theorem dX4_readFrame_15 : decode cX4_readFrame 15 = .ok (.aload_n 0, 1) := by decide +kernel
theorem dX4_readFrame_16 : decode cX4_readFrame 16 = .ok (.iload_n 3, 1) := by decide +kernel
theorem dX4_readFrame_17 : decode cX4_readFrame 17 = .ok (.bipush 8, 2) := by decide +kernel
theorem dX4_readFrame_19 : decode cX4_readFrame 19 = .ok (.bipush 7, 2) := by decide +kernel
theorem dX4_readFrame_21 : decode cX4_readFrame 21 = .ok (.invokevirtual 150, 3) := by decide +kernel
theorem dX4_readFrame_24 : decode cX4_readFrame 24 = .ok (.iconst 0, 1) := by decide +kernel
theorem dX4_readFrame_25 : decode cX4_readFrame 25 = .ok (.istore 5, 2) := by decide +kernel
theorem dX4_readFrame_27 : decode cX4_readFrame 27 = .ok (.iload 5, 2) := by decide +kernel
theorem dX4_readFrame_29 : decode cX4_readFrame 29 = .ok (.aload_n 0, 1) := by decide +kernel
theorem dX4_readFrame_30 : decode cX4_readFrame 30 = .ok (.getfield 28, 3) := by decide +kernel
theorem dX4_readFrame_33 : decode cX4_readFrame 33 = .ok (.getfield 135, 3) := by decide +kernel
theorem dX4_readFrame_36 : decode cX4_readFrame 36 = .ok (.if_icmp .ge 44, 3) := by decide +kernel
theorem dX4_readFrame_39 : decode cX4_readFrame 39 = .ok (.aload_n 0, 1) := by decide +kernel
theorem dX4_readFrame_40 : decode cX4_readFrame 40 = .ok (.aload_n 0, 1) := by decide +kernel
theorem dX4_readFrame_41 : decode cX4_readFrame 41 = .ok (.getfield 38, 3) := by decide +kernel
theorem dX4_readFrame_44 : decode cX4_readFrame 44 = .ok (.iload 5, 2) := by decide +kernel
theorem dX4_readFrame_46 : decode cX4_readFrame 46 = .ok (.aaload, 1) := by decide +kernel
theorem dX4_readFrame_47 : decode cX4_readFrame 47 = .ok (.iload_n 2, 1) := by decide +kernel
theorem dX4_readFrame_48 : decode cX4_readFrame 48 = .ok (.aload_n 0, 1) := by decide +kernel
theorem dX4_readFrame_49 : decode cX4_readFrame 49 = .ok (.getfield 28, 3) := by decide +kernel
theorem dX4_readFrame_52 : decode cX4_readFrame 52 = .ok (.getfield 138, 3) := by decide +kernel
theorem dX4_readFrame_55 : decode cX4_readFrame 55 = .ok (.iload 4, 2) := by decide +kernel
theorem dX4_readFrame_57 : decode cX4_readFrame 57 = .ok (.iload 5, 2) := by decide +kernel
theorem dX4_readFrame_59 : decode cX4_readFrame 59 = .ok (.invokestatic 154, 3) := by decide +kernel
theorem dX4_readFrame_62 : decode cX4_readFrame 62 = .ok (.ifCond .eq 7, 3) := by decide +kernel
theorem dX4_readFrame_65 : decode cX4_readFrame 65 = .ok (.iconst 1, 1) := by decide +kernel
theorem dX4_readFrame_66 : decode cX4_readFrame 66 = .ok (.goto 4, 3) := by decide +kernel
theorem dX4_readFrame_69 : decode cX4_readFrame 69 = .ok (.iconst 0, 1) := by decide +kernel
theorem dX4_readFrame_70 : decode cX4_readFrame 70 = .ok (.iadd, 1) := by decide +kernel
theorem dX4_readFrame_71 : decode cX4_readFrame 71 = .ok (.invokevirtual 158, 3) := by decide +kernel
theorem dX4_readFrame_74 : decode cX4_readFrame 74 = .ok (.iinc 5 1, 3) := by decide +kernel
theorem dX4_readFrame_77 : decode cX4_readFrame 77 = .ok (.goto (-50), 3) := by decide +kernel
theorem dX4_readFrame_80 : decode cX4_readFrame 80 = .ok (.aload_n 0, 1) := by decide +kernel
theorem dX4_readFrame_81 : decode cX4_readFrame 81 = .ok (.aload_n 0, 1) := by decide +kernel
theorem dX4_readFrame_82 : decode cX4_readFrame 82 = .ok (.getfield 64, 3) := by decide +kernel
theorem dX4_readFrame_85 : decode cX4_readFrame 85 = .ok (.ineg, 1) := by decide +kernel
theorem dX4_readFrame_86 : decode cX4_readFrame 86 = .ok (.bipush 7, 2) := by decide +kernel
theorem dX4_readFrame_88 : decode cX4_readFrame 88 = .ok (.iand, 1) := by decide +kernel
theorem dX4_readFrame_89 : decode cX4_readFrame 89 = .ok (.lconst 0, 1) := by decide +kernel
theorem dX4_readFrame_90 : decode cX4_readFrame 90 = .ok (.invokevirtual 104, 3) := by decide +kernel
theorem dX4_readFrame_93 : decode cX4_readFrame 93 = .ok (.aload_n 0, 1) := by decide +kernel
theorem dX4_readFrame_94 : decode cX4_readFrame 94 = .ok (.iload_n 3, 1) := by decide +kernel
theorem dX4_readFrame_95 : decode cX4_readFrame 95 = .ok (.bipush 16, 2) := by decide +kernel
theorem dX4_readFrame_97 : decode cX4_readFrame 97 = .ok (.ldc 162, 2) := by decide +kernel
theorem dX4_readFrame_99 : decode cX4_readFrame 99 = .ok (.invokevirtual 150, 3) := by decide +kernel
theorem dX4_readFrame_102 : decode cX4_readFrame 102 = .ok (.aload_n 0, 1) := by decide +kernel
theorem dX4_readFrame_103 : decode cX4_readFrame 103 = .ok (.iload 4, 2) := by decide +kernel
theorem dX4_readFrame_105 : decode cX4_readFrame 105 = .ok (.iload_n 2, 1) := by decide +kernel
theorem dX4_readFrame_106 : decode cX4_readFrame 106 = .ok (.invokevirtual 163, 3) := by decide +kernel
theorem dX4_readFrame_109 : decode cX4_readFrame 109 = .ok (.aload_n 0, 1) := by decide +kernel
theorem dX4_readFrame_110 : decode cX4_readFrame 110 = .ok (.iload_n 1, 1) := by decide +kernel
theorem dX4_readFrame_111 : decode cX4_readFrame 111 = .ok (.aload_n 0, 1) := by decide +kernel
theorem dX4_readFrame_112 : decode cX4_readFrame 112 = .ok (.getfield 28, 3) := by decide +kernel
theorem dX4_readFrame_115 : decode cX4_readFrame 115 = .ok (.getfield 70, 3) := by decide +kernel
theorem dX4_readFrame_118 : decode cX4_readFrame 118 = .ok (.imul, 1) := by decide +kernel
theorem dX4_readFrame_119 : decode cX4_readFrame 119 = .ok (.iload_n 2, 1) := by decide +kernel
theorem dX4_readFrame_120 : decode cX4_readFrame 120 = .ok (.invokevirtual 166, 3) := by decide +kernel
theorem dX4_readFrame_123 : decode cX4_readFrame 123 = .ok (.return_, 1) := by decide +kernel
theorem dX4_keepSamples_0 : decode cX4_keepSamples 0 = .ok (.iconst 0, 1) := by decide +kernel
theorem dX4_keepSamples_1 : decode cX4_keepSamples 1 = .ok (.istore_n 3, 1) := by decide +kernel
theorem dX4_keepSamples_2 : decode cX4_keepSamples 2 = .ok (.iload_n 3, 1) := by decide +kernel
theorem dX4_keepSamples_3 : decode cX4_keepSamples 3 = .ok (.aload_n 0, 1) := by decide +kernel
theorem dX4_keepSamples_4 : decode cX4_keepSamples 4 = .ok (.getfield 28, 3) := by decide +kernel
theorem dX4_keepSamples_7 : decode cX4_keepSamples 7 = .ok (.getfield 135, 3) := by decide +kernel
theorem dX4_keepSamples_10 : decode cX4_keepSamples 10 = .ok (.if_icmp .ge 77, 3) := by decide +kernel
theorem dX4_keepSamples_13 : decode cX4_keepSamples 13 = .ok (.iconst 0, 1) := by decide +kernel
theorem dX4_keepSamples_14 : decode cX4_keepSamples 14 = .ok (.istore 4, 2) := by decide +kernel
theorem dX4_keepSamples_16 : decode cX4_keepSamples 16 = .ok (.iload 4, 2) := by decide +kernel
theorem dX4_keepSamples_18 : decode cX4_keepSamples 18 = .ok (.iload_n 2, 1) := by decide +kernel
theorem dX4_keepSamples_19 : decode cX4_keepSamples 19 = .ok (.if_icmp .ge 62, 3) := by decide +kernel
theorem dX4_keepSamples_22 : decode cX4_keepSamples 22 = .ok (.aload_n 0, 1) := by decide +kernel
theorem dX4_keepSamples_23 : decode cX4_keepSamples 23 = .ok (.aload_n 0, 1) := by decide +kernel
theorem dX4_keepSamples_24 : decode cX4_keepSamples 24 = .ok (.getfield 38, 3) := by decide +kernel
theorem dX4_keepSamples_27 : decode cX4_keepSamples 27 = .ok (.iload_n 3, 1) := by decide +kernel
theorem dX4_keepSamples_28 : decode cX4_keepSamples 28 = .ok (.aaload, 1) := by decide +kernel
theorem dX4_keepSamples_29 : decode cX4_keepSamples 29 = .ok (.iload 4, 2) := by decide +kernel
theorem dX4_keepSamples_31 : decode cX4_keepSamples 31 = .ok (.iaload, 1) := by decide +kernel
theorem dX4_keepSamples_32 : decode cX4_keepSamples 32 = .ok (.i2l, 1) := by decide +kernel
theorem dX4_keepSamples_33 : decode cX4_keepSamples 33 = .ok (.aload_n 0, 1) := by decide +kernel
theorem dX4_keepSamples_34 : decode cX4_keepSamples 34 = .ok (.getfield 28, 3) := by decide +kernel
theorem dX4_keepSamples_37 : decode cX4_keepSamples 37 = .ok (.getfield 138, 3) := by decide +kernel
theorem dX4_keepSamples_40 : decode cX4_keepSamples 40 = .ok (.invokestatic 169, 3) := by decide +kernel
theorem dX4_keepSamples_43 : decode cX4_keepSamples 43 = .ok (.iconst 4, 1) := by decide +kernel
theorem dX4_keepSamples_44 : decode cX4_keepSamples 44 = .ok (.invokevirtual 119, 3) := by decide +kernel
theorem dX4_keepSamples_47 : decode cX4_keepSamples 47 = .ok (.aload_n 0, 1) := by decide +kernel
theorem dX4_keepSamples_48 : decode cX4_keepSamples 48 = .ok (.getfield 32, 3) := by decide +kernel
theorem dX4_keepSamples_51 : decode cX4_keepSamples 51 = .ok (.iload_n 1, 1) := by decide +kernel
theorem dX4_keepSamples_52 : decode cX4_keepSamples 52 = .ok (.iload 4, 2) := by decide +kernel
theorem dX4_keepSamples_54 : decode cX4_keepSamples 54 = .ok (.iadd, 1) := by decide +kernel
theorem dX4_keepSamples_55 : decode cX4_keepSamples 55 = .ok (.aload_n 0, 1) := by decide +kernel
theorem dX4_keepSamples_56 : decode cX4_keepSamples 56 = .ok (.getfield 28, 3) := by decide +kernel
theorem dX4_keepSamples_59 : decode cX4_keepSamples 59 = .ok (.getfield 135, 3) := by decide +kernel
theorem dX4_keepSamples_62 : decode cX4_keepSamples 62 = .ok (.imul, 1) := by decide +kernel
theorem dX4_keepSamples_63 : decode cX4_keepSamples 63 = .ok (.iload_n 3, 1) := by decide +kernel
theorem dX4_keepSamples_64 : decode cX4_keepSamples 64 = .ok (.iadd, 1) := by decide +kernel
theorem dX4_keepSamples_65 : decode cX4_keepSamples 65 = .ok (.aload_n 0, 1) := by decide +kernel
theorem dX4_keepSamples_66 : decode cX4_keepSamples 66 = .ok (.getfield 38, 3) := by decide +kernel
theorem dX4_keepSamples_69 : decode cX4_keepSamples 69 = .ok (.iload_n 3, 1) := by decide +kernel
theorem dX4_keepSamples_70 : decode cX4_keepSamples 70 = .ok (.aaload, 1) := by decide +kernel
theorem dX4_keepSamples_71 : decode cX4_keepSamples 71 = .ok (.iload 4, 2) := by decide +kernel
theorem dX4_keepSamples_73 : decode cX4_keepSamples 73 = .ok (.iaload, 1) := by decide +kernel
theorem dX4_keepSamples_74 : decode cX4_keepSamples 74 = .ok (.iastore, 1) := by decide +kernel
theorem dX4_keepSamples_75 : decode cX4_keepSamples 75 = .ok (.iinc 4 1, 3) := by decide +kernel
theorem dX4_keepSamples_78 : decode cX4_keepSamples 78 = .ok (.goto (-62), 3) := by decide +kernel
theorem dX4_keepSamples_81 : decode cX4_keepSamples 81 = .ok (.iinc 3 1, 3) := by decide +kernel
theorem dX4_keepSamples_84 : decode cX4_keepSamples 84 = .ok (.goto (-82), 3) := by decide +kernel
theorem dX4_keepSamples_87 : decode cX4_keepSamples 87 = .ok (.return_, 1) := by decide +kernel
theorem dX4_readHeader_0 : decode cX4_readHeader 0 = .ok (.aload_n 0, 1) := by decide +kernel
theorem dX4_readHeader_1 : decode cX4_readHeader 1 = .ok (.bipush 14, 2) := by decide +kernel
theorem dX4_readHeader_3 : decode cX4_readHeader 3 = .ok (.ldc2_w 173, 3) := by decide +kernel
theorem dX4_readHeader_6 : decode cX4_readHeader 6 = .ok (.invokevirtual 104, 3) := by decide +kernel
theorem dX4_readHeader_9 : decode cX4_readHeader 9 = .ok (.aload_n 0, 1) := by decide +kernel
theorem dX4_readHeader_10 : decode cX4_readHeader 10 = .ok (.iconst 2, 1) := by decide +kernel
theorem dX4_readHeader_11 : decode cX4_readHeader 11 = .ok (.lconst 0, 1) := by decide +kernel
theorem dX4_readHeader_12 : decode cX4_readHeader 12 = .ok (.invokevirtual 104, 3) := by decide +kernel
theorem dX4_readHeader_15 : decode cX4_readHeader 15 = .ok (.aload_n 0, 1) := by decide +kernel
theorem dX4_readHeader_16 : decode cX4_readHeader 16 = .ok (.iconst 4, 1) := by decide +kernel
theorem dX4_readHeader_17 : decode cX4_readHeader 17 = .ok (.ldc2_w 175, 3) := by decide +kernel
theorem dX4_readHeader_20 : decode cX4_readHeader 20 = .ok (.invokevirtual 104, 3) := by decide +kernel
theorem dX4_readHeader_23 : decode cX4_readHeader 23 = .ok (.aload_n 0, 1) := by decide +kernel
theorem dX4_readHeader_24 : decode cX4_readHeader 24 = .ok (.iconst 4, 1) := by decide +kernel
theorem dX4_readHeader_25 : decode cX4_readHeader 25 = .ok (.lconst 0, 1) := by decide +kernel
theorem dX4_readHeader_26 : decode cX4_readHeader 26 = .ok (.invokevirtual 104, 3) := by decide +kernel
theorem dX4_readHeader_29 : decode cX4_readHeader 29 = .ok (.aload_n 0, 1) := by decide +kernel
theorem dX4_readHeader_30 : decode cX4_readHeader 30 = .ok (.iconst 4, 1) := by decide +kernel
theorem dX4_readHeader_31 : decode cX4_readHeader 31 = .ok (.invokevirtual 98, 3) := by decide +kernel
theorem dX4_readHeader_34 : decode cX4_readHeader 34 = .ok (.l2i, 1) := by decide +kernel
theorem dX4_readHeader_35 : decode cX4_readHeader 35 = .ok (.istore_n 3, 1) := by decide +kernel
theorem dX4_readHeader_36 : decode cX4_readHeader 36 = .ok (.aload_n 0, 1) := by decide +kernel
theorem dX4_readHeader_37 : decode cX4_readHeader 37 = .ok (.getfield 28, 3) := by decide +kernel
theorem dX4_readHeader_40 : decode cX4_readHeader 40 = .ok (.getfield 135, 3) := by decide +kernel
theorem dX4_readHeader_43 : decode cX4_readHeader 43 = .ok (.iconst 2, 1) := by decide +kernel
theorem dX4_readHeader_44 : decode cX4_readHeader 44 = .ok (.if_icmp .ne 21, 3) := by decide +kernel
theorem dX4_readHeader_47 : decode cX4_readHeader 47 = .ok (.iload_n 3, 1) := by decide +kernel
theorem dX4_readHeader_48 : decode cX4_readHeader 48 = .ok (.i2l, 1) := by decide +kernel
theorem dX4_readHeader_49 : decode cX4_readHeader 49 = .ok (.ldc2_w 177, 3) := by decide +kernel
theorem dX4_readHeader_52 : decode cX4_readHeader 52 = .ok (.ldc2_w 179, 3) := by decide +kernel
theorem dX4_readHeader_55 : decode cX4_readHeader 55 = .ok (.invokestatic 115, 3) := by decide +kernel
theorem dX4_readHeader_58 : decode cX4_readHeader 58 = .ok (.ifCond .eq 7, 3) := by decide +kernel
theorem dX4_readHeader_61 : decode cX4_readHeader 61 = .ok (.iconst 1, 1) := by decide +kernel
theorem dX4_readHeader_62 : decode cX4_readHeader 62 = .ok (.goto 4, 3) := by decide +kernel
theorem dX4_readHeader_65 : decode cX4_readHeader 65 = .ok (.iconst 0, 1) := by decide +kernel
theorem dX4_readHeader_66 : decode cX4_readHeader 66 = .ok (.istore 4, 2) := by decide +kernel
theorem dX4_readHeader_68 : decode cX4_readHeader 68 = .ok (.aload_n 0, 1) := by decide +kernel
theorem dX4_readHeader_69 : decode cX4_readHeader 69 = .ok (.iload 4, 2) := by decide +kernel
theorem dX4_readHeader_71 : decode cX4_readHeader 71 = .ok (.ifCond .ne 16, 3) := by decide +kernel
theorem dX4_readHeader_74 : decode cX4_readHeader 74 = .ok (.iload_n 3, 1) := by decide +kernel
theorem dX4_readHeader_75 : decode cX4_readHeader 75 = .ok (.aload_n 0, 1) := by decide +kernel
theorem dX4_readHeader_76 : decode cX4_readHeader 76 = .ok (.getfield 28, 3) := by decide +kernel
theorem dX4_readHeader_79 : decode cX4_readHeader 79 = .ok (.getfield 135, 3) := by decide +kernel
theorem dX4_readHeader_82 : decode cX4_readHeader 82 = .ok (.iconst 1, 1) := by decide +kernel
theorem dX4_readHeader_83 : decode cX4_readHeader 83 = .ok (.isub, 1) := by decide +kernel
theorem dX4_readHeader_84 : decode cX4_readHeader 84 = .ok (.if_icmp .ne 7, 3) := by decide +kernel
theorem dX4_readHeader_87 : decode cX4_readHeader 87 = .ok (.iconst 1, 1) := by decide +kernel
theorem dX4_readHeader_88 : decode cX4_readHeader 88 = .ok (.goto 4, 3) := by decide +kernel
theorem dX4_readHeader_91 : decode cX4_readHeader 91 = .ok (.iconst 0, 1) := by decide +kernel
theorem dX4_readHeader_92 : decode cX4_readHeader 92 = .ok (.iconst 2, 1) := by decide +kernel
theorem dX4_readHeader_93 : decode cX4_readHeader 93 = .ok (.invokevirtual 119, 3) := by decide +kernel
theorem dX4_readHeader_96 : decode cX4_readHeader 96 = .ok (.aload_n 0, 1) := by decide +kernel
theorem dX4_readHeader_97 : decode cX4_readHeader 97 = .ok (.iconst 4, 1) := by decide +kernel
theorem dX4_readHeader_98 : decode cX4_readHeader 98 = .ok (.lconst 0, 1) := by decide +kernel
theorem dX4_readHeader_99 : decode cX4_readHeader 99 = .ok (.invokevirtual 104, 3) := by decide +kernel
theorem dX4_readHeader_102 : decode cX4_readHeader 102 = .ok (.aload_n 0, 1) := by decide +kernel
theorem dX4_readHeader_103 : decode cX4_readHeader 103 = .ok (.iload_n 1, 1) := by decide +kernel
theorem dX4_readHeader_104 : decode cX4_readHeader 104 = .ok (.invokevirtual 181, 3) := by decide +kernel
theorem dX4_readHeader_107 : decode cX4_readHeader 107 = .ok (.aload_n 0, 1) := by decide +kernel
theorem dX4_readHeader_108 : decode cX4_readHeader 108 = .ok (.aload_n 0, 1) := by decide +kernel
theorem dX4_readHeader_109 : decode cX4_readHeader 109 = .ok (.bipush 8, 2) := by decide +kernel
theorem dX4_readHeader_111 : decode cX4_readHeader 111 = .ok (.invokevirtual 98, 3) := by decide +kernel
theorem dX4_readHeader_114 : decode cX4_readHeader 114 = .ok (.iload_n 2, 1) := by decide +kernel
theorem dX4_readHeader_115 : decode cX4_readHeader 115 = .ok (.iconst 1, 1) := by decide +kernel
theorem dX4_readHeader_116 : decode cX4_readHeader 116 = .ok (.isub, 1) := by decide +kernel
theorem dX4_readHeader_117 : decode cX4_readHeader 117 = .ok (.i2l, 1) := by decide +kernel
theorem dX4_readHeader_118 : decode cX4_readHeader 118 = .ok (.lcmp, 1) := by decide +kernel
theorem dX4_readHeader_119 : decode cX4_readHeader 119 = .ok (.ifCond .ne 7, 3) := by decide +kernel
theorem dX4_readHeader_122 : decode cX4_readHeader 122 = .ok (.iconst 1, 1) := by decide +kernel
theorem dX4_readHeader_123 : decode cX4_readHeader 123 = .ok (.goto 4, 3) := by decide +kernel
theorem dX4_readHeader_126 : decode cX4_readHeader 126 = .ok (.iconst 0, 1) := by decide +kernel
theorem dX4_readHeader_127 : decode cX4_readHeader 127 = .ok (.iconst 4, 1) := by decide +kernel
theorem dX4_readHeader_128 : decode cX4_readHeader 128 = .ok (.invokevirtual 119, 3) := by decide +kernel
theorem dX4_readHeader_131 : decode cX4_readHeader 131 = .ok (.iload_n 3, 1) := by decide +kernel
theorem dX4_readHeader_132 : decode cX4_readHeader 132 = .ok (.ireturn, 1) := by decide +kernel
theorem dX4_readFrameNumber_0 : decode cX4_readFrameNumber 0 = .ok (.aload_n 0, 1) := by decide +kernel
theorem dX4_readFrameNumber_1 : decode cX4_readFrameNumber 1 = .ok (.bipush 8, 2) := by decide +kernel
theorem dX4_readFrameNumber_3 : decode cX4_readFrameNumber 3 = .ok (.invokevirtual 98, 3) := by decide +kernel
theorem dX4_readFrameNumber_6 : decode cX4_readFrameNumber 6 = .ok (.lstore_n 2, 1) := by decide +kernel
theorem dX4_readFrameNumber_7 : decode cX4_readFrameNumber 7 = .ok (.aload_n 0, 1) := by decide +kernel
theorem dX4_readFrameNumber_8 : decode cX4_readFrameNumber 8 = .ok (.lload_n 2, 1) := by decide +kernel
theorem dX4_readFrameNumber_9 : decode cX4_readFrameNumber 9 = .ok (.lconst 0, 1) := by decide +kernel
theorem dX4_readFrameNumber_10 : decode cX4_readFrameNumber 10 = .ok (.ldc2_w 184, 3) := by decide +kernel
theorem dX4_readFrameNumber_13 : decode cX4_readFrameNumber 13 = .ok (.invokestatic 115, 3) := by decide +kernel
theorem dX4_readFrameNumber_16 : decode cX4_readFrameNumber 16 = .ok (.ifCond .ne 16, 3) := by decide +kernel
theorem dX4_readFrameNumber_19 : decode cX4_readFrameNumber 19 = .ok (.lload_n 2, 1) := by decide +kernel
theorem dX4_readFrameNumber_20 : decode cX4_readFrameNumber 20 = .ok (.ldc2_w 186, 3) := by decide +kernel
theorem dX4_readFrameNumber_23 : decode cX4_readFrameNumber 23 = .ok (.ldc2_w 188, 3) := by decide +kernel
theorem dX4_readFrameNumber_26 : decode cX4_readFrameNumber 26 = .ok (.invokestatic 115, 3) := by decide +kernel
theorem dX4_readFrameNumber_29 : decode cX4_readFrameNumber 29 = .ok (.ifCond .eq 7, 3) := by decide +kernel
theorem dX4_readFrameNumber_32 : decode cX4_readFrameNumber 32 = .ok (.iconst 1, 1) := by decide +kernel
theorem dX4_readFrameNumber_33 : decode cX4_readFrameNumber 33 = .ok (.goto 4, 3) := by decide +kernel
theorem dX4_readFrameNumber_36 : decode cX4_readFrameNumber 36 = .ok (.iconst 0, 1) := by decide +kernel
theorem dX4_readFrameNumber_37 : decode cX4_readFrameNumber 37 = .ok (.iconst 2, 1) := by decide +kernel
theorem dX4_readFrameNumber_38 : decode cX4_readFrameNumber 38 = .ok (.invokevirtual 119, 3) := by decide +kernel
theorem dX4_readFrameNumber_41 : decode cX4_readFrameNumber 41 = .ok (.aload_n 0, 1) := by decide +kernel
theorem dX4_readFrameNumber_42 : decode cX4_readFrameNumber 42 = .ok (.lload_n 2, 1) := by decide +kernel
theorem dX4_readFrameNumber_43 : decode cX4_readFrameNumber 43 = .ok (.iload_n 1, 1) := by decide +kernel
theorem dX4_readFrameNumber_44 : decode cX4_readFrameNumber 44 = .ok (.sipush 128, 3) := by decide +kernel
theorem dX4_readFrameNumber_47 : decode cX4_readFrameNumber 47 = .ok (.if_icmp .ge 7, 3) := by decide +kernel
theorem dX4_readFrameNumber_50 : decode cX4_readFrameNumber 50 = .ok (.iload_n 1, 1) := by decide +kernel
theorem dX4_readFrameNumber_51 : decode cX4_readFrameNumber 51 = .ok (.goto 11, 3) := by decide +kernel
theorem dX4_readFrameNumber_54 : decode cX4_readFrameNumber 54 = .ok (.sipush 192, 3) := by decide +kernel
theorem dX4_readFrameNumber_57 : decode cX4_readFrameNumber 57 = .ok (.iload_n 1, 1) := by decide +kernel
theorem dX4_readFrameNumber_58 : decode cX4_readFrameNumber 58 = .ok (.bipush 6, 2) := by decide +kernel
theorem dX4_readFrameNumber_60 : decode cX4_readFrameNumber 60 = .ok (.ishr, 1) := by decide +kernel
theorem dX4_readFrameNumber_61 : decode cX4_readFrameNumber 61 = .ok (.iadd, 1) := by decide +kernel
theorem dX4_readFrameNumber_62 : decode cX4_readFrameNumber 62 = .ok (.i2l, 1) := by decide +kernel
theorem dX4_readFrameNumber_63 : decode cX4_readFrameNumber 63 = .ok (.lcmp, 1) := by decide +kernel
theorem dX4_readFrameNumber_64 : decode cX4_readFrameNumber 64 = .ok (.ifCond .ne 7, 3) := by decide +kernel
theorem dX4_readFrameNumber_67 : decode cX4_readFrameNumber 67 = .ok (.iconst 1, 1) := by decide +kernel
theorem dX4_readFrameNumber_68 : decode cX4_readFrameNumber 68 = .ok (.goto 4, 3) := by decide +kernel
theorem dX4_readFrameNumber_71 : decode cX4_readFrameNumber 71 = .ok (.iconst 0, 1) := by decide +kernel
theorem dX4_readFrameNumber_72 : decode cX4_readFrameNumber 72 = .ok (.iconst 4, 1) := by decide +kernel
theorem dX4_readFrameNumber_73 : decode cX4_readFrameNumber 73 = .ok (.invokevirtual 119, 3) := by decide +kernel
theorem dX4_readFrameNumber_76 : decode cX4_readFrameNumber 76 = .ok (.iload_n 1, 1) := by decide +kernel
theorem dX4_readFrameNumber_77 : decode cX4_readFrameNumber 77 = .ok (.sipush 128, 3) := by decide +kernel
theorem dX4_readFrameNumber_80 : decode cX4_readFrameNumber 80 = .ok (.if_icmp .lt 52, 3) := by decide +kernel
theorem dX4_readFrameNumber_83 : decode cX4_readFrameNumber 83 = .ok (.aload_n 0, 1) := by decide +kernel
theorem dX4_readFrameNumber_84 : decode cX4_readFrameNumber 84 = .ok (.bipush 8, 2) := by decide +kernel
theorem dX4_readFrameNumber_86 : decode cX4_readFrameNumber 86 = .ok (.invokevirtual 98, 3) := by decide +kernel
theorem dX4_readFrameNumber_89 : decode cX4_readFrameNumber 89 = .ok (.lstore 4, 2) := by decide +kernel
theorem dX4_readFrameNumber_91 : decode cX4_readFrameNumber 91 = .ok (.aload_n 0, 1) := by decide +kernel
theorem dX4_readFrameNumber_92 : decode cX4_readFrameNumber 92 = .ok (.lload 4, 2) := by decide +kernel
theorem dX4_readFrameNumber_94 : decode cX4_readFrameNumber 94 = .ok (.ldc2_w 190, 3) := by decide +kernel
theorem dX4_readFrameNumber_97 : decode cX4_readFrameNumber 97 = .ok (.ldc2_w 192, 3) := by decide +kernel
theorem dX4_readFrameNumber_100 : decode cX4_readFrameNumber 100 = .ok (.invokestatic 115, 3) := by decide +kernel
theorem dX4_readFrameNumber_103 : decode cX4_readFrameNumber 103 = .ok (.iconst 2, 1) := by decide +kernel
theorem dX4_readFrameNumber_104 : decode cX4_readFrameNumber 104 = .ok (.invokevirtual 119, 3) := by decide +kernel
theorem dX4_readFrameNumber_107 : decode cX4_readFrameNumber 107 = .ok (.aload_n 0, 1) := by decide +kernel
theorem dX4_readFrameNumber_108 : decode cX4_readFrameNumber 108 = .ok (.lload 4, 2) := by decide +kernel
theorem dX4_readFrameNumber_110 : decode cX4_readFrameNumber 110 = .ok (.sipush 128, 3) := by decide +kernel
theorem dX4_readFrameNumber_113 : decode cX4_readFrameNumber 113 = .ok (.iload_n 1, 1) := by decide +kernel
theorem dX4_readFrameNumber_114 : decode cX4_readFrameNumber 114 = .ok (.bipush 63, 2) := by decide +kernel
theorem dX4_readFrameNumber_116 : decode cX4_readFrameNumber 116 = .ok (.iand, 1) := by decide +kernel
theorem dX4_readFrameNumber_117 : decode cX4_readFrameNumber 117 = .ok (.iadd, 1) := by decide +kernel
theorem dX4_readFrameNumber_118 : decode cX4_readFrameNumber 118 = .ok (.i2l, 1) := by decide +kernel
theorem dX4_readFrameNumber_119 : decode cX4_readFrameNumber 119 = .ok (.lcmp, 1) := by decide +kernel
theorem dX4_readFrameNumber_120 : decode cX4_readFrameNumber 120 = .ok (.ifCond .ne 7, 3) := by decide +kernel
theorem dX4_readFrameNumber_123 : decode cX4_readFrameNumber 123 = .ok (.iconst 1, 1) := by decide +kernel
theorem dX4_readFrameNumber_124 : decode cX4_readFrameNumber 124 = .ok (.goto 4, 3) := by decide +kernel
theorem dX4_readFrameNumber_127 : decode cX4_readFrameNumber 127 = .ok (.iconst 0, 1) := by decide +kernel
theorem dX4_readFrameNumber_128 : decode cX4_readFrameNumber 128 = .ok (.iconst 4, 1) := by decide +kernel
theorem dX4_readFrameNumber_129 : decode cX4_readFrameNumber 129 = .ok (.invokevirtual 119, 3) := by decide +kernel
theorem dX4_readFrameNumber_132 : decode cX4_readFrameNumber 132 = .ok (.return_, 1) := by decide +kernel
theorem dX4_expectSum_0 : decode cX4_expectSum 0 = .ok (.aload_n 0, 1) := by decide +kernel
theorem dX4_expectSum_1 : decode cX4_expectSum 1 = .ok (.getfield 9, 3) := by decide +kernel
theorem dX4_expectSum_4 : decode cX4_expectSum 4 = .ok (.iload_n 1, 1) := by decide +kernel
theorem dX4_expectSum_5 : decode cX4_expectSum 5 = .ok (.aload_n 0, 1) := by decide +kernel
theorem dX4_expectSum_6 : decode cX4_expectSum 6 = .ok (.getfield 64, 3) := by decide +kernel
theorem dX4_expectSum_9 : decode cX4_expectSum 9 = .ok (.iconst 3, 1) := by decide +kernel
theorem dX4_expectSum_10 : decode cX4_expectSum 10 = .ok (.ishr, 1) := by decide +kernel
theorem dX4_expectSum_11 : decode cX4_expectSum 11 = .ok (.iload_n 2, 1) := by decide +kernel
theorem dX4_expectSum_12 : decode cX4_expectSum 12 = .ok (.iload_n 3, 1) := by decide +kernel
theorem dX4_expectSum_13 : decode cX4_expectSum 13 = .ok (.invokestatic 194, 3) := by decide +kernel
theorem dX4_expectSum_16 : decode cX4_expectSum 16 = .ok (.istore 4, 2) := by decide +kernel
theorem dX4_expectSum_18 : decode cX4_expectSum 18 = .ok (.aload_n 0, 1) := by decide +kernel
theorem dX4_expectSum_19 : decode cX4_expectSum 19 = .ok (.aload_n 0, 1) := by decide +kernel
theorem dX4_expectSum_20 : decode cX4_expectSum 20 = .ok (.iload_n 2, 1) := by decide +kernel
theorem dX4_expectSum_21 : decode cX4_expectSum 21 = .ok (.invokevirtual 98, 3) := by decide +kernel
theorem dX4_expectSum_24 : decode cX4_expectSum 24 = .ok (.iload 4, 2) := by decide +kernel
theorem dX4_expectSum_26 : decode cX4_expectSum 26 = .ok (.i2l, 1) := by decide +kernel
theorem dX4_expectSum_27 : decode cX4_expectSum 27 = .ok (.lcmp, 1) := by decide +kernel
theorem dX4_expectSum_28 : decode cX4_expectSum 28 = .ok (.ifCond .ne 7, 3) := by decide +kernel
theorem dX4_expectSum_31 : decode cX4_expectSum 31 = .ok (.iconst 1, 1) := by decide +kernel
theorem dX4_expectSum_32 : decode cX4_expectSum 32 = .ok (.goto 4, 3) := by decide +kernel
theorem dX4_expectSum_35 : decode cX4_expectSum 35 = .ok (.iconst 0, 1) := by decide +kernel
theorem dX4_expectSum_36 : decode cX4_expectSum 36 = .ok (.iconst 3, 1) := by decide +kernel
theorem dX4_expectSum_37 : decode cX4_expectSum 37 = .ok (.invokevirtual 119, 3) := by decide +kernel
theorem dX4_expectSum_40 : decode cX4_expectSum 40 = .ok (.return_, 1) := by decide +kernel
theorem dX4_readSubframe_0 : decode cX4_readSubframe 0 = .ok (.aload_n 0, 1) := by decide +kernel
theorem dX4_readSubframe_1 : decode cX4_readSubframe 1 = .ok (.iconst 1, 1) := by decide +kernel
theorem dX4_readSubframe_2 : decode cX4_readSubframe 2 = .ok (.lconst 0, 1) := by decide +kernel
theorem dX4_readSubframe_3 : decode cX4_readSubframe 3 = .ok (.invokevirtual 104, 3) := by decide +kernel
theorem dX4_readSubframe_6 : decode cX4_readSubframe 6 = .ok (.aload_n 0, 1) := by decide +kernel
theorem dX4_readSubframe_7 : decode cX4_readSubframe 7 = .ok (.bipush 6, 2) := by decide +kernel
theorem dX4_readSubframe_9 : decode cX4_readSubframe 9 = .ok (.invokevirtual 98, 3) := by decide +kernel
theorem dX4_readSubframe_12 : decode cX4_readSubframe 12 = .ok (.l2i, 1) := by decide +kernel
theorem dX4_readSubframe_13 : decode cX4_readSubframe 13 = .ok (.istore 4, 2) := by decide +kernel
theorem dX4_readSubframe_15 : decode cX4_readSubframe 15 = .ok (.iload 4, 2) := by decide +kernel
theorem dX4_readSubframe_17 : decode cX4_readSubframe 17 = .ok (.invokestatic 198, 3) := by decide +kernel
theorem dX4_readSubframe_20 : decode cX4_readSubframe 20 = .ok (.istore 5, 2) := by decide +kernel
theorem dX4_readSubframe_22 : decode cX4_readSubframe 22 = .ok (.aload_n 0, 1) := by decide +kernel
theorem dX4_readSubframe_23 : decode cX4_readSubframe 23 = .ok (.iload 5, 2) := by decide +kernel
theorem dX4_readSubframe_25 : decode cX4_readSubframe 25 = .ok (.i2l, 1) := by decide +kernel
theorem dX4_readSubframe_26 : decode cX4_readSubframe 26 = .ok (.lconst 0, 1) := by decide +kernel
theorem dX4_readSubframe_27 : decode cX4_readSubframe 27 = .ok (.iload_n 2, 1) := by decide +kernel
theorem dX4_readSubframe_28 : decode cX4_readSubframe 28 = .ok (.i2l, 1) := by decide +kernel
theorem dX4_readSubframe_29 : decode cX4_readSubframe 29 = .ok (.invokestatic 115, 3) := by decide +kernel
theorem dX4_readSubframe_32 : decode cX4_readSubframe 32 = .ok (.iconst 2, 1) := by decide +kernel
theorem dX4_readSubframe_33 : decode cX4_readSubframe 33 = .ok (.invokevirtual 119, 3) := by decide +kernel
theorem dX4_readSubframe_36 : decode cX4_readSubframe 36 = .ok (.iconst 0, 1) := by decide +kernel
theorem dX4_readSubframe_37 : decode cX4_readSubframe 37 = .ok (.istore 6, 2) := by decide +kernel
theorem dX4_readSubframe_39 : decode cX4_readSubframe 39 = .ok (.aload_n 0, 1) := by decide +kernel
theorem dX4_readSubframe_40 : decode cX4_readSubframe 40 = .ok (.iconst 1, 1) := by decide +kernel
theorem dX4_readSubframe_41 : decode cX4_readSubframe 41 = .ok (.invokevirtual 98, 3) := by decide +kernel
theorem dX4_readSubframe_44 : decode cX4_readSubframe 44 = .ok (.lconst 1, 1) := by decide +kernel
theorem dX4_readSubframe_45 : decode cX4_readSubframe 45 = .ok (.lcmp, 1) := by decide +kernel
theorem dX4_readSubframe_46 : decode cX4_readSubframe 46 = .ok (.ifCond .ne 27, 3) := by decide +kernel
theorem dX4_readSubframe_49 : decode cX4_readSubframe 49 = .ok (.aload_n 0, 1) := by decide +kernel
theorem dX4_readSubframe_50 : decode cX4_readSubframe 50 = .ok (.invokevirtual 202, 3) := by decide +kernel
theorem dX4_readSubframe_53 : decode cX4_readSubframe 53 = .ok (.iconst 1, 1) := by decide +kernel
theorem dX4_readSubframe_54 : decode cX4_readSubframe 54 = .ok (.iadd, 1) := by decide +kernel
theorem dX4_readSubframe_55 : decode cX4_readSubframe 55 = .ok (.istore 6, 2) := by decide +kernel
theorem dX4_readSubframe_57 : decode cX4_readSubframe 57 = .ok (.aload_n 0, 1) := by decide +kernel
theorem dX4_readSubframe_58 : decode cX4_readSubframe 58 = .ok (.iload 6, 2) := by decide +kernel
theorem dX4_readSubframe_60 : decode cX4_readSubframe 60 = .ok (.iload_n 3, 1) := by decide +kernel
theorem dX4_readSubframe_61 : decode cX4_readSubframe 61 = .ok (.if_icmp .ge 7, 3) := by decide +kernel
theorem dX4_readSubframe_64 : decode cX4_readSubframe 64 = .ok (.iconst 1, 1) := by decide +kernel
theorem dX4_readSubframe_65 : decode cX4_readSubframe 65 = .ok (.goto 4, 3) := by decide +kernel
theorem dX4_readSubframe_68 : decode cX4_readSubframe 68 = .ok (.iconst 0, 1) := by decide +kernel
theorem dX4_readSubframe_69 : decode cX4_readSubframe 69 = .ok (.iconst 2, 1) := by decide +kernel
theorem dX4_readSubframe_70 : decode cX4_readSubframe 70 = .ok (.invokevirtual 119, 3) := by decide +kernel
theorem dX4_readSubframe_73 : decode cX4_readSubframe 73 = .ok (.iload_n 3, 1) := by decide +kernel
theorem dX4_readSubframe_74 : decode cX4_readSubframe 74 = .ok (.iload 6, 2) := by decide +kernel
theorem dX4_readSubframe_76 : decode cX4_readSubframe 76 = .ok (.isub, 1) := by decide +kernel
theorem dX4_readSubframe_77 : decode cX4_readSubframe 77 = .ok (.istore 7, 2) := by decide +kernel
theorem dX4_readSubframe_79 : decode cX4_readSubframe 79 = .ok (.iload 4, 2) := by decide +kernel
