theorem dX9_leave_8 : decode cX9_leave 8 = .ok (.aload_n 0, 1) := by decide +kernel
theorem dX9_leave_9 : decode cX9_leave 9 = .ok (.getfield 108, 3) := by decide +kernel
theorem dX9_leave_12 : decode cX9_leave 12 = .ok (.if_icmp .ge 77, 3) := by decide +kernel
theorem dX9_leave_15 : decode cX9_leave 15 = .ok (.aload_n 0, 1) := by decide +kernel
theorem dX9_leave_16 : decode cX9_leave 16 = .ok (.getfield 58, 3) := by decide +kernel
theorem dX9_leave_19 : decode cX9_leave 19 = .ok (.iload_n 3, 1) := by decide +kernel
theorem dX9_leave_20 : decode cX9_leave 20 = .ok (.aload_n 0, 1) := by decide +kernel
theorem dX9_leave_21 : decode cX9_leave 21 = .ok (.getfield 55, 3) := by decide +kernel
theorem dX9_leave_24 : decode cX9_leave 24 = .ok (.iload_n 3, 1) := by decide +kernel
theorem dX9_leave_25 : decode cX9_leave 25 = .ok (.laload, 1) := by decide +kernel
theorem dX9_leave_26 : decode cX9_leave 26 = .ok (.iload_n 1, 1) := by decide +kernel
theorem dX9_leave_27 : decode cX9_leave 27 = .ok (.bipush 31, 2) := by decide +kernel
theorem dX9_leave_29 : decode cX9_leave 29 = .ok (.if_icmp .le 11, 3) := by decide +kernel
theorem dX9_leave_32 : decode cX9_leave 32 = .ok (.aload_n 0, 1) := by decide +kernel
theorem dX9_leave_33 : decode cX9_leave 33 = .ok (.iload_n 3, 1) := by decide +kernel
theorem dX9_leave_34 : decode cX9_leave 34 = .ok (.invokevirtual 121, 3) := by decide +kernel
theorem dX9_leave_37 : decode cX9_leave 37 = .ok (.goto 16, 3) := by decide +kernel
theorem dX9_leave_40 : decode cX9_leave 40 = .ok (.aload_n 0, 1) := by decide +kernel
theorem dX9_leave_41 : decode cX9_leave 41 = .ok (.aload_n 0, 1) := by decide +kernel
theorem dX9_leave_42 : decode cX9_leave 42 = .ok (.getfield 55, 3) := by decide +kernel
theorem dX9_leave_45 : decode cX9_leave 45 = .ok (.iload_n 3, 1) := by decide +kernel
theorem dX9_leave_46 : decode cX9_leave 46 = .ok (.iload_n 1, 1) := by decide +kernel
theorem dX9_leave_47 : decode cX9_leave 47 = .ok (.bipush 8, 2) := by decide +kernel
theorem dX9_leave_49 : decode cX9_leave 49 = .ok (.isub, 1) := by decide +kernel
theorem dX9_leave_50 : decode cX9_leave 50 = .ok (.invokevirtual 125, 3) := by decide +kernel
theorem dX9_leave_53 : decode cX9_leave 53 = .ok (.lsub, 1) := by decide +kernel
theorem dX9_leave_54 : decode cX9_leave 54 = .ok (.lastore, 1) := by decide +kernel
theorem dX9_leave_55 : decode cX9_leave 55 = .ok (.iload_n 2, 1) := by decide +kernel
theorem dX9_leave_56 : decode cX9_leave 56 = .ok (.ifCond .eq 25, 3) := by decide +kernel
theorem dX9_leave_59 : decode cX9_leave 59 = .ok (.aload_n 0, 1) := by decide +kernel
theorem dX9_leave_60 : decode cX9_leave 60 = .ok (.getfield 58, 3) := by decide +kernel
theorem dX9_leave_63 : decode cX9_leave 63 = .ok (.iload_n 3, 1) := by decide +kernel
theorem dX9_leave_64 : decode cX9_leave 64 = .ok (.laload, 1) := by decide +kernel
theorem dX9_leave_65 : decode cX9_leave 65 = .ok (.ldc2_w 129, 3) := by decide +kernel
theorem dX9_leave_68 : decode cX9_leave 68 = .ok (.ldc2_w 131, 3) := by decide +kernel
theorem dX9_leave_71 : decode cX9_leave 71 = .ok (.invokestatic 75, 3) := by decide +kernel
theorem dX9_leave_74 : decode cX9_leave 74 = .ok (.ifCond .eq 7, 3) := by decide +kernel
theorem dX9_leave_77 : decode cX9_leave 77 = .ok (.iconst 1, 1) := by decide +kernel
theorem dX9_leave_78 : decode cX9_leave 78 = .ok (.goto 4, 3) := by decide +kernel
theorem dX9_leave_81 : decode cX9_leave 81 = .ok (.iconst 0, 1) := by decide +kernel
theorem dX9_leave_82 : decode cX9_leave 82 = .ok (.istore_n 2, 1) := by decide +kernel
theorem dX9_leave_83 : decode cX9_leave 83 = .ok (.iinc 3 1, 3) := by decide +kernel
theorem dX9_leave_86 : decode cX9_leave 86 = .ok (.goto (-79), 3) := by decide +kernel
theorem dX9_leave_89 : decode cX9_leave 89 = .ok (.iload_n 2, 1) := by decide +kernel
theorem dX9_leave_90 : decode cX9_leave 90 = .ok (.ireturn, 1) := by decide +kernel
theorem dX9_o_0 : decode cX9_o 0 = .ok (.iload_n 0, 1) := by decide +kernel
theorem dX9_o_1 : decode cX9_o 1 = .ok (.bipush 31, 2) := by decide +kernel
theorem dX9_o_3 : decode cX9_o 3 = .ok (.if_icmp .le 10, 3) := by decide +kernel
theorem dX9_o_6 : decode cX9_o 6 = .ok (.iload_n 0, 1) := by decide +kernel
theorem dX9_o_7 : decode cX9_o 7 = .ok (.bipush 31, 2) := by decide +kernel
theorem dX9_o_9 : decode cX9_o 9 = .ok (.isub, 1) := by decide +kernel
theorem dX9_o_10 : decode cX9_o 10 = .ok (.goto 7, 3) := by decide +kernel
theorem dX9_o_13 : decode cX9_o 13 = .ok (.iload_n 0, 1) := by decide +kernel
theorem dX9_o_14 : decode cX9_o 14 = .ok (.bipush 8, 2) := by decide +kernel
theorem dX9_o_16 : decode cX9_o 16 = .ok (.isub, 1) := by decide +kernel
theorem dX9_o_17 : decode cX9_o 17 = .ok (.ireturn, 1) := by decide +kernel
theorem dX9_folded_0 : decode cX9_folded 0 = .ok (.lload_n 0, 1) := by decide +kernel
theorem dX9_folded_1 : decode cX9_folded 1 = .ok (.lconst 0, 1) := by decide +kernel
theorem dX9_folded_2 : decode cX9_folded 2 = .ok (.lcmp, 1) := by decide +kernel
theorem dX9_folded_3 : decode cX9_folded 3 = .ok (.ifCond .ge 13, 3) := by decide +kernel
theorem dX9_folded_6 : decode cX9_folded 6 = .ok (.ldc2_w 133, 3) := by decide +kernel
theorem dX9_folded_9 : decode cX9_folded 9 = .ok (.lload_n 0, 1) := by decide +kernel
theorem dX9_folded_10 : decode cX9_folded 10 = .ok (.lmul, 1) := by decide +kernel
theorem dX9_folded_11 : decode cX9_folded 11 = .ok (.lconst 1, 1) := by decide +kernel
theorem dX9_folded_12 : decode cX9_folded 12 = .ok (.lsub, 1) := by decide +kernel
theorem dX9_folded_13 : decode cX9_folded 13 = .ok (.goto 8, 3) := by decide +kernel
theorem dX9_folded_16 : decode cX9_folded 16 = .ok (.ldc2_w 111, 3) := by decide +kernel
theorem dX9_folded_19 : decode cX9_folded 19 = .ok (.lload_n 0, 1) := by decide +kernel
theorem dX9_folded_20 : decode cX9_folded 20 = .ok (.lmul, 1) := by decide +kernel
theorem dX9_folded_21 : decode cX9_folded 21 = .ok (.lreturn, 1) := by decide +kernel
theorem dX9_costOf_0 : decode cX9_costOf 0 = .ok (.lconst 0, 1) := by decide +kernel
theorem dX9_costOf_1 : decode cX9_costOf 1 = .ok (.lstore 4, 2) := by decide +kernel
theorem dX9_costOf_3 : decode cX9_costOf 3 = .ok (.iload_n 1, 1) := by decide +kernel
theorem dX9_costOf_4 : decode cX9_costOf 4 = .ok (.istore 6, 2) := by decide +kernel
theorem dX9_costOf_6 : decode cX9_costOf 6 = .ok (.iload 6, 2) := by decide +kernel
theorem dX9_costOf_8 : decode cX9_costOf 8 = .ok (.iload_n 2, 1) := by decide +kernel
theorem dX9_costOf_9 : decode cX9_costOf 9 = .ok (.if_icmp .ge 31, 3) := by decide +kernel
theorem dX9_costOf_12 : decode cX9_costOf 12 = .ok (.lload 4, 2) := by decide +kernel
theorem dX9_costOf_14 : decode cX9_costOf 14 = .ok (.aload_n 0, 1) := by decide +kernel
theorem dX9_costOf_15 : decode cX9_costOf 15 = .ok (.getfield 58, 3) := by decide +kernel
theorem dX9_costOf_18 : decode cX9_costOf 18 = .ok (.iload 6, 2) := by decide +kernel
theorem dX9_costOf_20 : decode cX9_costOf 20 = .ok (.laload, 1) := by decide +kernel
theorem dX9_costOf_21 : decode cX9_costOf 21 = .ok (.invokestatic 135, 3) := by decide +kernel
theorem dX9_costOf_24 : decode cX9_costOf 24 = .ok (.iload_n 3, 1) := by decide +kernel
theorem dX9_costOf_25 : decode cX9_costOf 25 = .ok (.lshr, 1) := by decide +kernel
theorem dX9_costOf_26 : decode cX9_costOf 26 = .ok (.lconst 1, 1) := by decide +kernel
theorem dX9_costOf_27 : decode cX9_costOf 27 = .ok (.ladd, 1) := by decide +kernel
theorem dX9_costOf_28 : decode cX9_costOf 28 = .ok (.iload_n 3, 1) := by decide +kernel
theorem dX9_costOf_29 : decode cX9_costOf 29 = .ok (.i2l, 1) := by decide +kernel
theorem dX9_costOf_30 : decode cX9_costOf 30 = .ok (.ladd, 1) := by decide +kernel
theorem dX9_costOf_31 : decode cX9_costOf 31 = .ok (.ladd, 1) := by decide +kernel
theorem dX9_costOf_32 : decode cX9_costOf 32 = .ok (.lstore 4, 2) := by decide +kernel
theorem dX9_costOf_34 : decode cX9_costOf 34 = .ok (.iinc 6 1, 3) := by decide +kernel
theorem dX9_costOf_37 : decode cX9_costOf 37 = .ok (.goto (-31), 3) := by decide +kernel
theorem dX9_costOf_40 : decode cX9_costOf 40 = .ok (.lload 4, 2) := by decide +kernel
theorem dX9_costOf_42 : decode cX9_costOf 42 = .ok (.lreturn, 1) := by decide +kernel
theorem dX9_bestK_0 : decode cX9_bestK 0 = .ok (.iconst 0, 1) := by decide +kernel
theorem dX9_bestK_1 : decode cX9_bestK 1 = .ok (.istore_n 3, 1) := by decide +kernel
theorem dX9_bestK_2 : decode cX9_bestK 2 = .ok (.iconst 1, 1) := by decide +kernel
theorem dX9_bestK_3 : decode cX9_bestK 3 = .ok (.istore 4, 2) := by decide +kernel
theorem dX9_bestK_5 : decode cX9_bestK 5 = .ok (.iload 4, 2) := by decide +kernel
theorem dX9_bestK_7 : decode cX9_bestK 7 = .ok (.bipush 15, 2) := by decide +kernel
theorem dX9_bestK_9 : decode cX9_bestK 9 = .ok (.if_icmp .ge 31, 3) := by decide +kernel
theorem dX9_bestK_12 : decode cX9_bestK 12 = .ok (.aload_n 0, 1) := by decide +kernel
theorem dX9_bestK_13 : decode cX9_bestK 13 = .ok (.iload_n 1, 1) := by decide +kernel
theorem dX9_bestK_14 : decode cX9_bestK 14 = .ok (.iload_n 2, 1) := by decide +kernel
theorem dX9_bestK_15 : decode cX9_bestK 15 = .ok (.iload 4, 2) := by decide +kernel
theorem dX9_bestK_17 : decode cX9_bestK 17 = .ok (.invokevirtual 139, 3) := by decide +kernel
theorem dX9_bestK_20 : decode cX9_bestK 20 = .ok (.aload_n 0, 1) := by decide +kernel
theorem dX9_bestK_21 : decode cX9_bestK 21 = .ok (.iload_n 1, 1) := by decide +kernel
theorem dX9_bestK_22 : decode cX9_bestK 22 = .ok (.iload_n 2, 1) := by decide +kernel
theorem dX9_bestK_23 : decode cX9_bestK 23 = .ok (.iload_n 3, 1) := by decide +kernel
theorem dX9_bestK_24 : decode cX9_bestK 24 = .ok (.invokevirtual 139, 3) := by decide +kernel
theorem dX9_bestK_27 : decode cX9_bestK 27 = .ok (.lcmp, 1) := by decide +kernel
theorem dX9_bestK_28 : decode cX9_bestK 28 = .ok (.ifCond .ge 6, 3) := by decide +kernel
theorem dX9_bestK_31 : decode cX9_bestK 31 = .ok (.iload 4, 2) := by decide +kernel
theorem dX9_bestK_33 : decode cX9_bestK 33 = .ok (.istore_n 3, 1) := by decide +kernel
theorem dX9_bestK_34 : decode cX9_bestK 34 = .ok (.iinc 4 1, 3) := by decide +kernel
theorem dX9_bestK_37 : decode cX9_bestK 37 = .ok (.goto (-32), 3) := by decide +kernel
theorem dX9_bestK_40 : decode cX9_bestK 40 = .ok (.iload_n 3, 1) := by decide +kernel
theorem dX9_bestK_41 : decode cX9_bestK 41 = .ok (.ireturn, 1) := by decide +kernel
theorem dX9_partsCost_0 : decode cX9_partsCost 0 = .ok (.aload_n 0, 1) := by decide +kernel
theorem dX9_partsCost_1 : decode cX9_partsCost 1 = .ok (.getfield 108, 3) := by decide +kernel
theorem dX9_partsCost_4 : decode cX9_partsCost 4 = .ok (.iload_n 1, 1) := by decide +kernel
theorem dX9_partsCost_5 : decode cX9_partsCost 5 = .ok (.ishr, 1) := by decide +kernel
theorem dX9_partsCost_6 : decode cX9_partsCost 6 = .ok (.istore_n 3, 1) := by decide +kernel
theorem dX9_partsCost_7 : decode cX9_partsCost 7 = .ok (.ldc2_w 115, 3) := by decide +kernel
theorem dX9_partsCost_10 : decode cX9_partsCost 10 = .ok (.lstore 4, 2) := by decide +kernel
theorem dX9_partsCost_12 : decode cX9_partsCost 12 = .ok (.iconst 0, 1) := by decide +kernel
theorem dX9_partsCost_13 : decode cX9_partsCost 13 = .ok (.istore 6, 2) := by decide +kernel
theorem dX9_partsCost_15 : decode cX9_partsCost 15 = .ok (.iload 6, 2) := by decide +kernel
theorem dX9_partsCost_17 : decode cX9_partsCost 17 = .ok (.iconst 1, 1) := by decide +kernel
theorem dX9_partsCost_18 : decode cX9_partsCost 18 = .ok (.iload_n 1, 1) := by decide +kernel
theorem dX9_partsCost_19 : decode cX9_partsCost 19 = .ok (.ishl, 1) := by decide +kernel
theorem dX9_partsCost_20 : decode cX9_partsCost 20 = .ok (.if_icmp .ge 57, 3) := by decide +kernel
theorem dX9_partsCost_23 : decode cX9_partsCost 23 = .ok (.iload 6, 2) := by decide +kernel
theorem dX9_partsCost_25 : decode cX9_partsCost 25 = .ok (.ifCond .ne 7, 3) := by decide +kernel
theorem dX9_partsCost_28 : decode cX9_partsCost 28 = .ok (.iload_n 2, 1) := by decide +kernel
theorem dX9_partsCost_29 : decode cX9_partsCost 29 = .ok (.goto 7, 3) := by decide +kernel
theorem dX9_partsCost_32 : decode cX9_partsCost 32 = .ok (.iload 6, 2) := by decide +kernel
theorem dX9_partsCost_34 : decode cX9_partsCost 34 = .ok (.iload_n 3, 1) := by decide +kernel
theorem dX9_partsCost_35 : decode cX9_partsCost 35 = .ok (.imul, 1) := by decide +kernel
theorem dX9_partsCost_36 : decode cX9_partsCost 36 = .ok (.istore 7, 2) := by decide +kernel
theorem dX9_partsCost_38 : decode cX9_partsCost 38 = .ok (.iload 6, 2) := by decide +kernel
theorem dX9_partsCost_40 : decode cX9_partsCost 40 = .ok (.iconst 1, 1) := by decide +kernel
theorem dX9_partsCost_41 : decode cX9_partsCost 41 = .ok (.iadd, 1) := by decide +kernel
theorem dX9_partsCost_42 : decode cX9_partsCost 42 = .ok (.iload_n 3, 1) := by decide +kernel
theorem dX9_partsCost_43 : decode cX9_partsCost 43 = .ok (.imul, 1) := by decide +kernel
theorem dX9_partsCost_44 : decode cX9_partsCost 44 = .ok (.istore 8, 2) := by decide +kernel
theorem dX9_partsCost_46 : decode cX9_partsCost 46 = .ok (.lload 4, 2) := by decide +kernel
theorem dX9_partsCost_48 : decode cX9_partsCost 48 = .ok (.ldc2_w 79, 3) := by decide +kernel
theorem dX9_partsCost_51 : decode cX9_partsCost 51 = .ok (.aload_n 0, 1) := by decide +kernel
theorem dX9_partsCost_52 : decode cX9_partsCost 52 = .ok (.iload 7, 2) := by decide +kernel
theorem dX9_partsCost_54 : decode cX9_partsCost 54 = .ok (.iload 8, 2) := by decide +kernel
theorem dX9_partsCost_56 : decode cX9_partsCost 56 = .ok (.aload_n 0, 1) := by decide +kernel
theorem dX9_partsCost_57 : decode cX9_partsCost 57 = .ok (.iload 7, 2) := by decide +kernel
theorem dX9_partsCost_59 : decode cX9_partsCost 59 = .ok (.iload 8, 2) := by decide +kernel
theorem dX9_partsCost_61 : decode cX9_partsCost 61 = .ok (.invokevirtual 143, 3) := by decide +kernel
theorem dX9_partsCost_64 : decode cX9_partsCost 64 = .ok (.invokevirtual 139, 3) := by decide +kernel
theorem dX9_partsCost_67 : decode cX9_partsCost 67 = .ok (.ladd, 1) := by decide +kernel
theorem dX9_partsCost_68 : decode cX9_partsCost 68 = .ok (.ladd, 1) := by decide +kernel
theorem dX9_partsCost_69 : decode cX9_partsCost 69 = .ok (.lstore 4, 2) := by decide +kernel
theorem dX9_partsCost_71 : decode cX9_partsCost 71 = .ok (.iinc 6 1, 3) := by decide +kernel
theorem dX9_partsCost_74 : decode cX9_partsCost 74 = .ok (.goto (-59), 3) := by decide +kernel
theorem dX9_partsCost_77 : decode cX9_partsCost 77 = .ok (.lload 4, 2) := by decide +kernel
theorem dX9_partsCost_79 : decode cX9_partsCost 79 = .ok (.lreturn, 1) := by decide +kernel
theorem dX9_leftCost_0 : decode cX9_leftCost 0 = .ok (.aload_n 0, 1) := by decide +kernel
theorem dX9_leftCost_1 : decode cX9_leftCost 1 = .ok (.iconst 0, 1) := by decide +kernel
theorem dX9_leftCost_2 : decode cX9_leftCost 2 = .ok (.putfield 147, 3) := by decide +kernel
theorem dX9_leftCost_5 : decode cX9_leftCost 5 = .ok (.aload_n 0, 1) := by decide +kernel
theorem dX9_leftCost_6 : decode cX9_leftCost 6 = .ok (.iconst 0, 1) := by decide +kernel
theorem dX9_leftCost_7 : decode cX9_leftCost 7 = .ok (.iload_n 1, 1) := by decide +kernel
theorem dX9_leftCost_8 : decode cX9_leftCost 8 = .ok (.invokevirtual 150, 3) := by decide +kernel
theorem dX9_leftCost_11 : decode cX9_leftCost 11 = .ok (.lstore_n 2, 1) := by decide +kernel
theorem dX9_leftCost_12 : decode cX9_leftCost 12 = .ok (.iconst 1, 1) := by decide +kernel
theorem dX9_leftCost_13 : decode cX9_leftCost 13 = .ok (.istore 4, 2) := by decide +kernel
theorem dX9_leftCost_15 : decode cX9_leftCost 15 = .ok (.iload 4, 2) := by decide +kernel
theorem dX9_leftCost_17 : decode cX9_leftCost 17 = .ok (.iconst 4, 1) := by decide +kernel
theorem dX9_leftCost_18 : decode cX9_leftCost 18 = .ok (.if_icmp .ge 60, 3) := by decide +kernel
theorem dX9_leftCost_21 : decode cX9_leftCost 21 = .ok (.aload_n 0, 1) := by decide +kernel
theorem dX9_leftCost_22 : decode cX9_leftCost 22 = .ok (.getfield 108, 3) := by decide +kernel
theorem dX9_leftCost_25 : decode cX9_leftCost 25 = .ok (.iconst 1, 1) := by decide +kernel
theorem dX9_leftCost_26 : decode cX9_leftCost 26 = .ok (.iload 4, 2) := by decide +kernel
theorem dX9_leftCost_28 : decode cX9_leftCost 28 = .ok (.ishl, 1) := by decide +kernel
theorem dX9_leftCost_29 : decode cX9_leftCost 29 = .ok (.irem, 1) := by decide +kernel
theorem dX9_leftCost_30 : decode cX9_leftCost 30 = .ok (.ifCond .ne 42, 3) := by decide +kernel
theorem dX9_leftCost_33 : decode cX9_leftCost 33 = .ok (.aload_n 0, 1) := by decide +kernel
theorem dX9_leftCost_34 : decode cX9_leftCost 34 = .ok (.getfield 108, 3) := by decide +kernel
theorem dX9_leftCost_37 : decode cX9_leftCost 37 = .ok (.iload 4, 2) := by decide +kernel
theorem dX9_leftCost_39 : decode cX9_leftCost 39 = .ok (.ishr, 1) := by decide +kernel
theorem dX9_leftCost_40 : decode cX9_leftCost 40 = .ok (.iload_n 1, 1) := by decide +kernel
theorem dX9_leftCost_41 : decode cX9_leftCost 41 = .ok (.if_icmp .gt 6, 3) := by decide +kernel
theorem dX9_leftCost_44 : decode cX9_leftCost 44 = .ok (.goto 28, 3) := by decide +kernel
theorem dX9_leftCost_47 : decode cX9_leftCost 47 = .ok (.aload_n 0, 1) := by decide +kernel
theorem dX9_leftCost_48 : decode cX9_leftCost 48 = .ok (.iload 4, 2) := by decide +kernel
theorem dX9_leftCost_50 : decode cX9_leftCost 50 = .ok (.iload_n 1, 1) := by decide +kernel
theorem dX9_leftCost_51 : decode cX9_leftCost 51 = .ok (.invokevirtual 150, 3) := by decide +kernel
theorem dX9_leftCost_54 : decode cX9_leftCost 54 = .ok (.lstore 5, 2) := by decide +kernel
theorem dX9_leftCost_56 : decode cX9_leftCost 56 = .ok (.lload 5, 2) := by decide +kernel
theorem dX9_leftCost_58 : decode cX9_leftCost 58 = .ok (.lload_n 2, 1) := by decide +kernel
theorem dX9_leftCost_59 : decode cX9_leftCost 59 = .ok (.lcmp, 1) := by decide +kernel
theorem dX9_leftCost_60 : decode cX9_leftCost 60 = .ok (.ifCond .ge 12, 3) := by decide +kernel
theorem dX9_leftCost_63 : decode cX9_leftCost 63 = .ok (.lload 5, 2) := by decide +kernel
theorem dX9_leftCost_65 : decode cX9_leftCost 65 = .ok (.lstore_n 2, 1) := by decide +kernel
theorem dX9_leftCost_66 : decode cX9_leftCost 66 = .ok (.aload_n 0, 1) := by decide +kernel
theorem dX9_leftCost_67 : decode cX9_leftCost 67 = .ok (.iload 4, 2) := by decide +kernel
theorem dX9_leftCost_69 : decode cX9_leftCost 69 = .ok (.putfield 147, 3) := by decide +kernel
theorem dX9_leftCost_72 : decode cX9_leftCost 72 = .ok (.iinc 4 1, 3) := by decide +kernel
theorem dX9_leftCost_75 : decode cX9_leftCost 75 = .ok (.goto (-60), 3) := by decide +kernel
theorem dX9_leftCost_78 : decode cX9_leftCost 78 = .ok (.lload_n 2, 1) := by decide +kernel
theorem dX9_leftCost_79 : decode cX9_leftCost 79 = .ok (.lreturn, 1) := by decide +kernel
theorem dX9_offer_0 : decode cX9_offer 0 = .ok (.aload_n 0, 1) := by decide +kernel
theorem dX9_offer_1 : decode cX9_offer 1 = .ok (.getfield 154, 3) := by decide +kernel
theorem dX9_offer_4 : decode cX9_offer 4 = .ok (.lconst 0, 1) := by decide +kernel
theorem dX9_offer_5 : decode cX9_offer 5 = .ok (.lcmp, 1) := by decide +kernel
theorem dX9_offer_6 : decode cX9_offer 6 = .ok (.ifCond .lt 13, 3) := by decide +kernel
theorem dX9_offer_9 : decode cX9_offer 9 = .ok (.lload_n 3, 1) := by decide +kernel
theorem dX9_offer_10 : decode cX9_offer 10 = .ok (.aload_n 0, 1) := by decide +kernel
theorem dX9_offer_11 : decode cX9_offer 11 = .ok (.getfield 154, 3) := by decide +kernel
theorem dX9_offer_14 : decode cX9_offer 14 = .ok (.lcmp, 1) := by decide +kernel
theorem dX9_offer_15 : decode cX9_offer 15 = .ok (.ifCond .lt 4, 3) := by decide +kernel
theorem dX9_offer_18 : decode cX9_offer 18 = .ok (.return_, 1) := by decide +kernel
theorem dX9_offer_19 : decode cX9_offer 19 = .ok (.aload_n 0, 1) := by decide +kernel
theorem dX9_offer_20 : decode cX9_offer 20 = .ok (.iload_n 1, 1) := by decide +kernel
theorem dX9_offer_21 : decode cX9_offer 21 = .ok (.putfield 158, 3) := by decide +kernel
theorem dX9_offer_24 : decode cX9_offer 24 = .ok (.aload_n 0, 1) := by decide +kernel
theorem dX9_offer_25 : decode cX9_offer 25 = .ok (.iload_n 2, 1) := by decide +kernel
theorem dX9_offer_26 : decode cX9_offer 26 = .ok (.putfield 161, 3) := by decide +kernel
theorem dX9_offer_29 : decode cX9_offer 29 = .ok (.aload_n 0, 1) := by decide +kernel
theorem dX9_offer_30 : decode cX9_offer 30 = .ok (.lload_n 3, 1) := by decide +kernel
theorem dX9_offer_31 : decode cX9_offer 31 = .ok (.putfield 154, 3) := by decide +kernel
theorem dX9_offer_34 : decode cX9_offer 34 = .ok (.return_, 1) := by decide +kernel
theorem dX9_measure_0 : decode cX9_measure 0 = .ok (.aload_n 0, 1) := by decide +kernel
theorem dX9_measure_1 : decode cX9_measure 1 = .ok (.aload_n 0, 1) := by decide +kernel
theorem dX9_measure_2 : decode cX9_measure 2 = .ok (.invokevirtual 164, 3) := by decide +kernel
theorem dX9_measure_5 : decode cX9_measure 5 = .ok (.putfield 168, 3) := by decide +kernel
theorem dX9_measure_8 : decode cX9_measure 8 = .ok (.iload_n 1, 1) := by decide +kernel
theorem dX9_measure_9 : decode cX9_measure 9 = .ok (.aload_n 0, 1) := by decide +kernel
theorem dX9_measure_10 : decode cX9_measure 10 = .ok (.getfield 168, 3) := by decide +kernel
theorem dX9_measure_13 : decode cX9_measure 13 = .ok (.isub, 1) := by decide +kernel
theorem dX9_measure_14 : decode cX9_measure 14 = .ok (.istore_n 2, 1) := by decide +kernel
theorem dX9_measure_15 : decode cX9_measure 15 = .ok (.aload_n 0, 1) := by decide +kernel
theorem dX9_measure_16 : decode cX9_measure 16 = .ok (.ldc2_w 171, 3) := by decide +kernel
theorem dX9_measure_19 : decode cX9_measure 19 = .ok (.putfield 154, 3) := by decide +kernel
theorem dX9_measure_22 : decode cX9_measure 22 = .ok (.aload_n 0, 1) := by decide +kernel
theorem dX9_measure_23 : decode cX9_measure 23 = .ok (.invokevirtual 173, 3) := by decide +kernel
theorem dX9_measure_26 : decode cX9_measure 26 = .ok (.ifCond .eq 11, 3) := by decide +kernel
theorem dX9_measure_29 : decode cX9_measure 29 = .ok (.aload_n 0, 1) := by decide +kernel
theorem dX9_measure_30 : decode cX9_measure 30 = .ok (.iconst 0, 1) := by decide +kernel
theorem dX9_measure_31 : decode cX9_measure 31 = .ok (.iconst (-1), 1) := by decide +kernel
theorem dX9_measure_32 : decode cX9_measure 32 = .ok (.iload_n 2, 1) := by decide +kernel
theorem dX9_measure_33 : decode cX9_measure 33 = .ok (.i2l, 1) := by decide +kernel
theorem dX9_measure_34 : decode cX9_measure 34 = .ok (.invokevirtual 177, 3) := by decide +kernel
theorem dX9_measure_37 : decode cX9_measure 37 = .ok (.bipush 8, 2) := by decide +kernel
theorem dX9_measure_39 : decode cX9_measure 39 = .ok (.istore_n 3, 1) := by decide +kernel
theorem dX9_measure_40 : decode cX9_measure 40 = .ok (.iload_n 3, 1) := by decide +kernel
theorem dX9_measure_41 : decode cX9_measure 41 = .ok (.bipush 13, 2) := by decide +kernel
theorem dX9_measure_43 : decode cX9_measure 43 = .ok (.if_icmp .ge 60, 3) := by decide +kernel
theorem dX9_measure_46 : decode cX9_measure 46 = .ok (.iload_n 3, 1) := by decide +kernel
theorem dX9_measure_47 : decode cX9_measure 47 = .ok (.invokestatic 117, 3) := by decide +kernel
theorem dX9_measure_50 : decode cX9_measure 50 = .ok (.aload_n 0, 1) := by decide +kernel
theorem dX9_measure_51 : decode cX9_measure 51 = .ok (.getfield 108, 3) := by decide +kernel
theorem dX9_measure_54 : decode cX9_measure 54 = .ok (.if_icmp .le 6, 3) := by decide +kernel
theorem dX9_measure_57 : decode cX9_measure 57 = .ok (.goto 40, 3) := by decide +kernel
theorem dX9_measure_60 : decode cX9_measure 60 = .ok (.aload_n 0, 1) := by decide +kernel
theorem dX9_measure_61 : decode cX9_measure 61 = .ok (.iload_n 3, 1) := by decide +kernel
theorem dX9_measure_62 : decode cX9_measure 62 = .ok (.invokevirtual 181, 3) := by decide +kernel
theorem dX9_measure_65 : decode cX9_measure 65 = .ok (.istore 4, 2) := by decide +kernel
theorem dX9_measure_67 : decode cX9_measure 67 = .ok (.iload_n 3, 1) := by decide +kernel
theorem dX9_measure_68 : decode cX9_measure 68 = .ok (.invokestatic 117, 3) := by decide +kernel
theorem dX9_measure_71 : decode cX9_measure 71 = .ok (.i2l, 1) := by decide +kernel
theorem dX9_measure_72 : decode cX9_measure 72 = .ok (.iload_n 2, 1) := by decide +kernel
theorem dX9_measure_73 : decode cX9_measure 73 = .ok (.i2l, 1) := by decide +kernel
theorem dX9_measure_74 : decode cX9_measure 74 = .ok (.lmul, 1) := by decide +kernel
theorem dX9_measure_75 : decode cX9_measure 75 = .ok (.aload_n 0, 1) := by decide +kernel
theorem dX9_measure_76 : decode cX9_measure 76 = .ok (.iload_n 3, 1) := by decide +kernel
theorem dX9_measure_77 : decode cX9_measure 77 = .ok (.invokestatic 117, 3) := by decide +kernel
theorem dX9_measure_80 : decode cX9_measure 80 = .ok (.invokevirtual 185, 3) := by decide +kernel
theorem dX9_measure_83 : decode cX9_measure 83 = .ok (.ladd, 1) := by decide +kernel
theorem dX9_measure_84 : decode cX9_measure 84 = .ok (.lstore 5, 2) := by decide +kernel
theorem dX9_measure_86 : decode cX9_measure 86 = .ok (.aload_n 0, 1) := by decide +kernel
theorem dX9_measure_87 : decode cX9_measure 87 = .ok (.iload_n 3, 1) := by decide +kernel
theorem dX9_measure_88 : decode cX9_measure 88 = .ok (.aload_n 0, 1) := by decide +kernel
theorem dX9_measure_89 : decode cX9_measure 89 = .ok (.getfield 147, 3) := by decide +kernel
theorem dX9_measure_92 : decode cX9_measure 92 = .ok (.lload 5, 2) := by decide +kernel
theorem dX9_measure_94 : decode cX9_measure 94 = .ok (.invokevirtual 177, 3) := by decide +kernel
theorem dX9_measure_97 : decode cX9_measure 97 = .ok (.iinc 3 1, 3) := by decide +kernel
theorem dX9_measure_100 : decode cX9_measure 100 = .ok (.goto (-60), 3) := by decide +kernel
theorem dX9_measure_103 : decode cX9_measure 103 = .ok (.bipush 31, 2) := by decide +kernel
theorem dX9_measure_105 : decode cX9_measure 105 = .ok (.aload_n 0, 1) := by decide +kernel
theorem dX9_measure_106 : decode cX9_measure 106 = .ok (.getfield 97, 3) := by decide +kernel
theorem dX9_measure_109 : decode cX9_measure 109 = .ok (.iadd, 1) := by decide +kernel
theorem dX9_measure_110 : decode cX9_measure 110 = .ok (.istore_n 3, 1) := by decide +kernel
theorem dX9_measure_111 : decode cX9_measure 111 = .ok (.aload_n 0, 1) := by decide +kernel
theorem dX9_measure_112 : decode cX9_measure 112 = .ok (.getfield 97, 3) := by decide +kernel
theorem dX9_measure_115 : decode cX9_measure 115 = .ok (.ifCond .le 66, 3) := by decide +kernel
theorem dX9_measure_118 : decode cX9_measure 118 = .ok (.aload_n 0, 1) := by decide +kernel
theorem dX9_measure_119 : decode cX9_measure 119 = .ok (.getfield 97, 3) := by decide +kernel
theorem dX9_measure_122 : decode cX9_measure 122 = .ok (.aload_n 0, 1) := by decide +kernel
theorem dX9_measure_123 : decode cX9_measure 123 = .ok (.getfield 108, 3) := by decide +kernel
theorem dX9_measure_126 : decode cX9_measure 126 = .ok (.if_icmp .gt 55, 3) := by decide +kernel
theorem dX9_measure_129 : decode cX9_measure 129 = .ok (.aload_n 0, 1) := by decide +kernel
theorem dX9_measure_130 : decode cX9_measure 130 = .ok (.iload_n 3, 1) := by decide +kernel
theorem dX9_measure_131 : decode cX9_measure 131 = .ok (.invokevirtual 181, 3) := by decide +kernel
theorem dX9_measure_134 : decode cX9_measure 134 = .ok (.ifCond .eq 47, 3) := by decide +kernel
theorem dX9_measure_137 : decode cX9_measure 137 = .ok (.aload_n 0, 1) := by decide +kernel
theorem dX9_measure_138 : decode cX9_measure 138 = .ok (.getfield 97, 3) := by decide +kernel
theorem dX9_measure_141 : decode cX9_measure 141 = .ok (.i2l, 1) := by decide +kernel
theorem dX9_measure_142 : decode cX9_measure 142 = .ok (.iload_n 2, 1) := by decide +kernel
theorem dX9_measure_143 : decode cX9_measure 143 = .ok (.i2l, 1) := by decide +kernel
theorem dX9_measure_144 : decode cX9_measure 144 = .ok (.lmul, 1) := by decide +kernel
theorem dX9_measure_145 : decode cX9_measure 145 = .ok (.ldc2_w 188, 3) := by decide +kernel
theorem dX9_measure_148 : decode cX9_measure 148 = .ok (.ladd, 1) := by decide +kernel
theorem dX9_measure_149 : decode cX9_measure 149 = .ok (.ldc2_w 190, 3) := by decide +kernel
theorem dX9_measure_152 : decode cX9_measure 152 = .ok (.aload_n 0, 1) := by decide +kernel
theorem dX9_measure_153 : decode cX9_measure 153 = .ok (.getfield 97, 3) := by decide +kernel
theorem dX9_measure_156 : decode cX9_measure 156 = .ok (.i2l, 1) := by decide +kernel
theorem dX9_measure_157 : decode cX9_measure 157 = .ok (.lmul, 1) := by decide +kernel
theorem dX9_measure_158 : decode cX9_measure 158 = .ok (.ladd, 1) := by decide +kernel
theorem dX9_measure_159 : decode cX9_measure 159 = .ok (.aload_n 0, 1) := by decide +kernel
theorem dX9_measure_160 : decode cX9_measure 160 = .ok (.aload_n 0, 1) := by decide +kernel
theorem dX9_measure_161 : decode cX9_measure 161 = .ok (.getfield 97, 3) := by decide +kernel
theorem dX9_measure_164 : decode cX9_measure 164 = .ok (.invokevirtual 185, 3) := by decide +kernel
theorem dX9_measure_167 : decode cX9_measure 167 = .ok (.ladd, 1) := by decide +kernel
theorem dX9_measure_168 : decode cX9_measure 168 = .ok (.lstore 4, 2) := by decide +kernel
theorem dX9_measure_170 : decode cX9_measure 170 = .ok (.aload_n 0, 1) := by decide +kernel
theorem dX9_measure_171 : decode cX9_measure 171 = .ok (.iload_n 3, 1) := by decide +kernel
theorem dX9_measure_172 : decode cX9_measure 172 = .ok (.aload_n 0, 1) := by decide +kernel
theorem dX9_measure_173 : decode cX9_measure 173 = .ok (.getfield 147, 3) := by decide +kernel
theorem dX9_measure_176 : decode cX9_measure 176 = .ok (.lload 4, 2) := by decide +kernel
theorem dX9_measure_178 : decode cX9_measure 178 = .ok (.invokevirtual 177, 3) := by decide +kernel
theorem dX9_measure_181 : decode cX9_measure 181 = .ok (.aload_n 0, 1) := by decide +kernel
theorem dX9_measure_182 : decode cX9_measure 182 = .ok (.iconst 1, 1) := by decide +kernel
theorem dX9_measure_183 : decode cX9_measure 183 = .ok (.iconst (-1), 1) := by decide +kernel
theorem dX9_measure_184 : decode cX9_measure 184 = .ok (.aload_n 0, 1) := by decide +kernel
theorem dX9_measure_185 : decode cX9_measure 185 = .ok (.getfield 108, 3) := by decide +kernel
theorem dX9_measure_188 : decode cX9_measure 188 = .ok (.i2l, 1) := by decide +kernel
theorem dX9_measure_189 : decode cX9_measure 189 = .ok (.iload_n 2, 1) := by decide +kernel
theorem dX9_measure_190 : decode cX9_measure 190 = .ok (.i2l, 1) := by decide +kernel
theorem dX9_measure_191 : decode cX9_measure 191 = .ok (.lmul, 1) := by decide +kernel
theorem dX9_measure_192 : decode cX9_measure 192 = .ok (.invokevirtual 177, 3) := by decide +kernel
theorem dX9_measure_195 : decode cX9_measure 195 = .ok (.aload_n 0, 1) := by decide +kernel
theorem dX9_measure_196 : decode cX9_measure 196 = .ok (.dup, 1) := by decide +kernel
theorem dX9_measure_197 : decode cX9_measure 197 = .ok (.getfield 154, 3) := by decide +kernel
theorem dX9_measure_200 : decode cX9_measure 200 = .ok (.ldc2_w 73, 3) := by decide +kernel
theorem dX9_measure_203 : decode cX9_measure 203 = .ok (.aload_n 0, 1) := by decide +kernel
theorem dX9_measure_204 : decode cX9_measure 204 = .ok (.getfield 168, 3) := by decide +kernel
theorem dX9_measure_207 : decode cX9_measure 207 = .ok (.i2l, 1) := by decide +kernel
theorem dX9_measure_208 : decode cX9_measure 208 = .ok (.ladd, 1) := by decide +kernel
theorem dX9_measure_209 : decode cX9_measure 209 = .ok (.ladd, 1) := by decide +kernel
theorem dX9_measure_210 : decode cX9_measure 210 = .ok (.putfield 154, 3) := by decide +kernel
theorem dX9_measure_213 : decode cX9_measure 213 = .ok (.return_, 1) := by decide +kernel
theorem dX9_write_0 : decode cX9_write 0 = .ok (.iload_n 1, 1) := by decide +kernel
theorem dX9_write_1 : decode cX9_write 1 = .ok (.iconst 1, 1) := by decide +kernel
theorem dX9_write_2 : decode cX9_write 2 = .ok (.isub, 1) := by decide +kernel
theorem dX9_write_3 : decode cX9_write 3 = .ok (.istore 4, 2) := by decide +kernel
theorem dX9_write_5 : decode cX9_write 5 = .ok (.iload 4, 2) := by decide +kernel
theorem dX9_write_7 : decode cX9_write 7 = .ok (.ifCond .lt 80, 3) := by decide +kernel
theorem dX9_write_10 : decode cX9_write 10 = .ok (.aload_n 0, 1) := by decide +kernel
theorem dX9_write_11 : decode cX9_write 11 = .ok (.getfield 192, 3) := by decide +kernel
theorem dX9_write_14 : decode cX9_write 14 = .ok (.ldc2_w 195, 3) := by decide +kernel
theorem dX9_write_17 : decode cX9_write 17 = .ok (.ldiv, 1) := by decide +kernel
theorem dX9_write_18 : decode cX9_write 18 = .ok (.l2i, 1) := by decide +kernel
theorem dX9_write_19 : decode cX9_write 19 = .ok (.istore 5, 2) := by decide +kernel
theorem dX9_write_21 : decode cX9_write 21 = .ok (.aload_n 0, 1) := by decide +kernel
theorem dX9_write_22 : decode cX9_write 22 = .ok (.getfield 192, 3) := by decide +kernel
theorem dX9_write_25 : decode cX9_write 25 = .ok (.ldc2_w 195, 3) := by decide +kernel
theorem dX9_write_28 : decode cX9_write 28 = .ok (.lrem, 1) := by decide +kernel
theorem dX9_write_29 : decode cX9_write 29 = .ok (.lconst 0, 1) := by decide +kernel
theorem dX9_write_30 : decode cX9_write 30 = .ok (.lcmp, 1) := by decide +kernel
theorem dX9_write_31 : decode cX9_write 31 = .ok (.ifCond .ne 11, 3) := by decide +kernel
theorem dX9_write_34 : decode cX9_write 34 = .ok (.aload_n 0, 1) := by decide +kernel
theorem dX9_write_35 : decode cX9_write 35 = .ok (.getfield 30, 3) := by decide +kernel
theorem dX9_write_38 : decode cX9_write 38 = .ok (.iload 5, 2) := by decide +kernel
theorem dX9_write_40 : decode cX9_write 40 = .ok (.lconst 0, 1) := by decide +kernel
theorem dX9_write_41 : decode cX9_write 41 = .ok (.lastore, 1) := by decide +kernel
theorem dX9_write_42 : decode cX9_write 42 = .ok (.aload_n 0, 1) := by decide +kernel
theorem dX9_write_43 : decode cX9_write 43 = .ok (.getfield 30, 3) := by decide +kernel
theorem dX9_write_46 : decode cX9_write 46 = .ok (.iload 5, 2) := by decide +kernel
theorem dX9_write_48 : decode cX9_write 48 = .ok (.dup2, 1) := by decide +kernel
theorem dX9_write_49 : decode cX9_write 49 = .ok (.laload, 1) := by decide +kernel
theorem dX9_write_50 : decode cX9_write 50 = .ok (.lload_n 2, 1) := by decide +kernel
theorem dX9_write_51 : decode cX9_write 51 = .ok (.iload 4, 2) := by decide +kernel
theorem dX9_write_53 : decode cX9_write 53 = .ok (.lshr, 1) := by decide +kernel
theorem dX9_write_54 : decode cX9_write 54 = .ok (.lconst 1, 1) := by decide +kernel
theorem dX9_write_55 : decode cX9_write 55 = .ok (.land, 1) := by decide +kernel
theorem dX9_write_56 : decode cX9_write 56 = .ok (.bipush 63, 2) := by decide +kernel
theorem dX9_write_58 : decode cX9_write 58 = .ok (.aload_n 0, 1) := by decide +kernel
theorem dX9_write_59 : decode cX9_write 59 = .ok (.getfield 192, 3) := by decide +kernel
theorem dX9_write_62 : decode cX9_write 62 = .ok (.ldc2_w 195, 3) := by decide +kernel
theorem dX9_write_65 : decode cX9_write 65 = .ok (.lrem, 1) := by decide +kernel
theorem dX9_write_66 : decode cX9_write 66 = .ok (.l2i, 1) := by decide +kernel
theorem dX9_write_67 : decode cX9_write 67 = .ok (.isub, 1) := by decide +kernel
theorem dX9_write_68 : decode cX9_write 68 = .ok (.lshl, 1) := by decide +kernel
theorem dX9_write_69 : decode cX9_write 69 = .ok (.lor, 1) := by decide +kernel
theorem dX9_write_70 : decode cX9_write 70 = .ok (.lastore, 1) := by decide +kernel
theorem dX9_write_71 : decode cX9_write 71 = .ok (.aload_n 0, 1) := by decide +kernel
theorem dX9_write_72 : decode cX9_write 72 = .ok (.dup, 1) := by decide +kernel
theorem dX9_write_73 : decode cX9_write 73 = .ok (.getfield 192, 3) := by decide +kernel
theorem dX9_write_76 : decode cX9_write 76 = .ok (.lconst 1, 1) := by decide +kernel
theorem dX9_write_77 : decode cX9_write 77 = .ok (.ladd, 1) := by decide +kernel
theorem dX9_write_78 : decode cX9_write 78 = .ok (.putfield 192, 3) := by decide +kernel
theorem dX9_write_81 : decode cX9_write 81 = .ok (.iinc 4 (-1), 3) := by decide +kernel
theorem dX9_write_84 : decode cX9_write 84 = .ok (.goto (-79), 3) := by decide +kernel
theorem dX9_write_87 : decode cX9_write 87 = .ok (.return_, 1) := by decide +kernel
theorem dX9_octetOf_0 : decode cX9_octetOf 0 = .ok (.aload_n 0, 1) := by decide +kernel
theorem dX9_octetOf_1 : decode cX9_octetOf 1 = .ok (.iload_n 1, 1) := by decide +kernel
theorem dX9_octetOf_2 : decode cX9_octetOf 2 = .ok (.bipush 8, 2) := by decide +kernel
theorem dX9_octetOf_4 : decode cX9_octetOf 4 = .ok (.idiv, 1) := by decide +kernel
theorem dX9_octetOf_5 : decode cX9_octetOf 5 = .ok (.laload, 1) := by decide +kernel
theorem dX9_octetOf_6 : decode cX9_octetOf 6 = .ok (.bipush 56, 2) := by decide +kernel
theorem dX9_octetOf_8 : decode cX9_octetOf 8 = .ok (.bipush 8, 2) := by decide +kernel
theorem dX9_octetOf_10 : decode cX9_octetOf 10 = .ok (.iload_n 1, 1) := by decide +kernel
theorem dX9_octetOf_11 : decode cX9_octetOf 11 = .ok (.bipush 8, 2) := by decide +kernel
theorem dX9_octetOf_13 : decode cX9_octetOf 13 = .ok (.irem, 1) := by decide +kernel
theorem dX9_octetOf_14 : decode cX9_octetOf 14 = .ok (.imul, 1) := by decide +kernel
theorem dX9_octetOf_15 : decode cX9_octetOf 15 = .ok (.isub, 1) := by decide +kernel
theorem dX9_octetOf_16 : decode cX9_octetOf 16 = .ok (.lshr, 1) := by decide +kernel
theorem dX9_octetOf_17 : decode cX9_octetOf 17 = .ok (.l2i, 1) := by decide +kernel
theorem dX9_octetOf_18 : decode cX9_octetOf 18 = .ok (.sipush 255, 3) := by decide +kernel
theorem dX9_octetOf_21 : decode cX9_octetOf 21 = .ok (.iand, 1) := by decide +kernel
theorem dX9_octetOf_22 : decode cX9_octetOf 22 = .ok (.ireturn, 1) := by decide +kernel
theorem dX9_sumOf_0 : decode cX9_sumOf 0 = .ok (.iconst 0, 1) := by decide +kernel
theorem dX9_sumOf_1 : decode cX9_sumOf 1 = .ok (.istore 4, 2) := by decide +kernel
theorem dX9_sumOf_3 : decode cX9_sumOf 3 = .ok (.iload_n 3, 1) := by decide +kernel
theorem dX9_sumOf_4 : decode cX9_sumOf 4 = .ok (.ifCond .eq 8, 3) := by decide +kernel
theorem dX9_sumOf_7 : decode cX9_sumOf 7 = .ok (.ldc 197, 2) := by decide +kernel
theorem dX9_sumOf_9 : decode cX9_sumOf 9 = .ok (.goto 6, 3) := by decide +kernel
theorem dX9_sumOf_12 : decode cX9_sumOf 12 = .ok (.sipush 128, 3) := by decide +kernel
theorem dX9_sumOf_15 : decode cX9_sumOf 15 = .ok (.istore 5, 2) := by decide +kernel
theorem dX9_sumOf_17 : decode cX9_sumOf 17 = .ok (.iload_n 1, 1) := by decide +kernel
theorem dX9_sumOf_18 : decode cX9_sumOf 18 = .ok (.istore 6, 2) := by decide +kernel
theorem dX9_sumOf_20 : decode cX9_sumOf 20 = .ok (.iload 6, 2) := by decide +kernel
theorem dX9_sumOf_22 : decode cX9_sumOf 22 = .ok (.iload_n 2, 1) := by decide +kernel
theorem dX9_sumOf_23 : decode cX9_sumOf 23 = .ok (.if_icmp .ge 97, 3) := by decide +kernel
theorem dX9_sumOf_26 : decode cX9_sumOf 26 = .ok (.bipush 7, 2) := by decide +kernel
theorem dX9_sumOf_28 : decode cX9_sumOf 28 = .ok (.istore 7, 2) := by decide +kernel
theorem dX9_sumOf_30 : decode cX9_sumOf 30 = .ok (.iload 7, 2) := by decide +kernel
theorem dX9_sumOf_32 : decode cX9_sumOf 32 = .ok (.ifCond .lt 82, 3) := by decide +kernel
theorem dX9_sumOf_35 : decode cX9_sumOf 35 = .ok (.iload 4, 2) := by decide +kernel
theorem dX9_sumOf_37 : decode cX9_sumOf 37 = .ok (.iload 5, 2) := by decide +kernel
theorem dX9_sumOf_39 : decode cX9_sumOf 39 = .ok (.iand, 1) := by decide +kernel
theorem dX9_sumOf_40 : decode cX9_sumOf 40 = .ok (.ifCond .eq 7, 3) := by decide +kernel
theorem dX9_sumOf_43 : decode cX9_sumOf 43 = .ok (.iconst 1, 1) := by decide +kernel
theorem dX9_sumOf_44 : decode cX9_sumOf 44 = .ok (.goto 4, 3) := by decide +kernel
theorem dX9_sumOf_47 : decode cX9_sumOf 47 = .ok (.iconst 0, 1) := by decide +kernel
theorem dX9_sumOf_48 : decode cX9_sumOf 48 = .ok (.istore 8, 2) := by decide +kernel
theorem dX9_sumOf_50 : decode cX9_sumOf 50 = .ok (.aload_n 0, 1) := by decide +kernel
theorem dX9_sumOf_51 : decode cX9_sumOf 51 = .ok (.iload 6, 2) := by decide +kernel
theorem dX9_sumOf_53 : decode cX9_sumOf 53 = .ok (.invokestatic 198, 3) := by decide +kernel
theorem dX9_sumOf_56 : decode cX9_sumOf 56 = .ok (.iload 7, 2) := by decide +kernel
theorem dX9_sumOf_58 : decode cX9_sumOf 58 = .ok (.ishr, 1) := by decide +kernel
theorem dX9_sumOf_59 : decode cX9_sumOf 59 = .ok (.iconst 1, 1) := by decide +kernel
theorem dX9_sumOf_60 : decode cX9_sumOf 60 = .ok (.iand, 1) := by decide +kernel
theorem dX9_sumOf_61 : decode cX9_sumOf 61 = .ok (.iconst 1, 1) := by decide +kernel
theorem dX9_sumOf_62 : decode cX9_sumOf 62 = .ok (.if_icmp .ne 7, 3) := by decide +kernel
theorem dX9_sumOf_65 : decode cX9_sumOf 65 = .ok (.iconst 1, 1) := by decide +kernel
theorem dX9_sumOf_66 : decode cX9_sumOf 66 = .ok (.goto 4, 3) := by decide +kernel
theorem dX9_sumOf_69 : decode cX9_sumOf 69 = .ok (.iconst 0, 1) := by decide +kernel
theorem dX9_sumOf_70 : decode cX9_sumOf 70 = .ok (.istore 9, 2) := by decide +kernel
theorem dX9_sumOf_72 : decode cX9_sumOf 72 = .ok (.iload 4, 2) := by decide +kernel
theorem dX9_sumOf_74 : decode cX9_sumOf 74 = .ok (.iconst 1, 1) := by decide +kernel
theorem dX9_sumOf_75 : decode cX9_sumOf 75 = .ok (.ishl, 1) := by decide +kernel
theorem dX9_sumOf_76 : decode cX9_sumOf 76 = .ok (.iconst 2, 1) := by decide +kernel
theorem dX9_sumOf_77 : decode cX9_sumOf 77 = .ok (.iload 5, 2) := by decide +kernel
theorem dX9_sumOf_79 : decode cX9_sumOf 79 = .ok (.imul, 1) := by decide +kernel
theorem dX9_sumOf_80 : decode cX9_sumOf 80 = .ok (.iconst 1, 1) := by decide +kernel
theorem dX9_sumOf_81 : decode cX9_sumOf 81 = .ok (.isub, 1) := by decide +kernel
theorem dX9_sumOf_82 : decode cX9_sumOf 82 = .ok (.iand, 1) := by decide +kernel
theorem dX9_sumOf_83 : decode cX9_sumOf 83 = .ok (.istore 4, 2) := by decide +kernel
theorem dX9_sumOf_85 : decode cX9_sumOf 85 = .ok (.iload 8, 2) := by decide +kernel
theorem dX9_sumOf_87 : decode cX9_sumOf 87 = .ok (.iload 9, 2) := by decide +kernel
theorem dX9_sumOf_89 : decode cX9_sumOf 89 = .ok (.if_icmp .eq 19, 3) := by decide +kernel
theorem dX9_sumOf_92 : decode cX9_sumOf 92 = .ok (.iload 4, 2) := by decide +kernel
theorem dX9_sumOf_94 : decode cX9_sumOf 94 = .ok (.iload_n 3, 1) := by decide +kernel
theorem dX9_sumOf_95 : decode cX9_sumOf 95 = .ok (.ifCond .eq 8, 3) := by decide +kernel
theorem dX9_sumOf_98 : decode cX9_sumOf 98 = .ok (.ldc 202, 2) := by decide +kernel
theorem dX9_sumOf_100 : decode cX9_sumOf 100 = .ok (.goto 5, 3) := by decide +kernel
theorem dX9_sumOf_103 : decode cX9_sumOf 103 = .ok (.bipush 7, 2) := by decide +kernel
theorem dX9_sumOf_105 : decode cX9_sumOf 105 = .ok (.ixor, 1) := by decide +kernel
theorem dX9_sumOf_106 : decode cX9_sumOf 106 = .ok (.istore 4, 2) := by decide +kernel
theorem dX9_sumOf_108 : decode cX9_sumOf 108 = .ok (.iinc 7 (-1), 3) := by decide +kernel
theorem dX9_sumOf_111 : decode cX9_sumOf 111 = .ok (.goto (-81), 3) := by decide +kernel
theorem dX9_sumOf_114 : decode cX9_sumOf 114 = .ok (.iinc 6 1, 3) := by decide +kernel
theorem dX9_sumOf_117 : decode cX9_sumOf 117 = .ok (.goto (-97), 3) := by decide +kernel
theorem dX9_sumOf_120 : decode cX9_sumOf 120 = .ok (.iload 4, 2) := by decide +kernel
theorem dX9_sumOf_122 : decode cX9_sumOf 122 = .ok (.ireturn, 1) := by decide +kernel
theorem dX9_load_0 : decode cX9_load 0 = .ok (.aload_n 0, 1) := by decide +kernel
theorem dX9_load_1 : decode cX9_load 1 = .ok (.iload_n 3, 1) := by decide +kernel
theorem dX9_load_2 : decode cX9_load 2 = .ok (.putfield 108, 3) := by decide +kernel
theorem dX9_load_5 : decode cX9_load 5 = .ok (.iconst 0, 1) := by decide +kernel
theorem dX9_load_6 : decode cX9_load 6 = .ok (.istore 4, 2) := by decide +kernel
theorem dX9_load_8 : decode cX9_load 8 = .ok (.iload 4, 2) := by decide +kernel
theorem dX9_load_10 : decode cX9_load 10 = .ok (.iload_n 3, 1) := by decide +kernel
theorem dX9_load_11 : decode cX9_load 11 = .ok (.if_icmp .ge 106, 3) := by decide +kernel
theorem dX9_load_14 : decode cX9_load 14 = .ok (.iload_n 1, 1) := by decide +kernel
theorem dX9_load_15 : decode cX9_load 15 = .ok (.aload_n 0, 1) := by decide +kernel
theorem dX9_load_16 : decode cX9_load 16 = .ok (.getfield 16, 3) := by decide +kernel
theorem dX9_load_19 : decode cX9_load 19 = .ok (.imul, 1) := by decide +kernel
theorem dX9_load_20 : decode cX9_load 20 = .ok (.iload 4, 2) := by decide +kernel
theorem dX9_load_22 : decode cX9_load 22 = .ok (.iadd, 1) := by decide +kernel
theorem dX9_load_23 : decode cX9_load 23 = .ok (.aload_n 0, 1) := by decide +kernel
theorem dX9_load_24 : decode cX9_load 24 = .ok (.getfield 7, 3) := by decide +kernel
theorem dX9_load_27 : decode cX9_load 27 = .ok (.imul, 1) := by decide +kernel
theorem dX9_load_28 : decode cX9_load 28 = .ok (.istore 5, 2) := by decide +kernel
theorem dX9_load_30 : decode cX9_load 30 = .ok (.aload_n 0, 1) := by decide +kernel
theorem dX9_load_31 : decode cX9_load 31 = .ok (.getfield 27, 3) := by decide +kernel
theorem dX9_load_34 : decode cX9_load 34 = .ok (.iload 5, 2) := by decide +kernel
theorem dX9_load_36 : decode cX9_load 36 = .ok (.iaload, 1) := by decide +kernel
theorem dX9_load_37 : decode cX9_load 37 = .ok (.i2l, 1) := by decide +kernel
theorem dX9_load_38 : decode cX9_load 38 = .ok (.lstore 6, 2) := by decide +kernel
theorem dX9_load_40 : decode cX9_load 40 = .ok (.aload_n 0, 1) := by decide +kernel
theorem dX9_load_41 : decode cX9_load 41 = .ok (.getfield 7, 3) := by decide +kernel
theorem dX9_load_44 : decode cX9_load 44 = .ok (.iconst 2, 1) := by decide +kernel
theorem dX9_load_45 : decode cX9_load 45 = .ok (.if_icmp .ne 16, 3) := by decide +kernel
theorem dX9_load_48 : decode cX9_load 48 = .ok (.aload_n 0, 1) := by decide +kernel
theorem dX9_load_49 : decode cX9_load 49 = .ok (.getfield 27, 3) := by decide +kernel
theorem dX9_load_52 : decode cX9_load 52 = .ok (.iload 5, 2) := by decide +kernel
theorem dX9_load_54 : decode cX9_load 54 = .ok (.iconst 1, 1) := by decide +kernel
theorem dX9_load_55 : decode cX9_load 55 = .ok (.iadd, 1) := by decide +kernel
theorem dX9_load_56 : decode cX9_load 56 = .ok (.iaload, 1) := by decide +kernel
theorem dX9_load_57 : decode cX9_load 57 = .ok (.i2l, 1) := by decide +kernel
theorem dX9_load_58 : decode cX9_load 58 = .ok (.goto 4, 3) := by decide +kernel
theorem dX9_load_61 : decode cX9_load 61 = .ok (.lconst 0, 1) := by decide +kernel
theorem dX9_load_62 : decode cX9_load 62 = .ok (.lstore 8, 2) := by decide +kernel
theorem dX9_load_64 : decode cX9_load 64 = .ok (.aload_n 0, 1) := by decide +kernel
theorem dX9_load_65 : decode cX9_load 65 = .ok (.getfield 55, 3) := by decide +kernel
theorem dX9_load_68 : decode cX9_load 68 = .ok (.iload 4, 2) := by decide +kernel
theorem dX9_load_70 : decode cX9_load 70 = .ok (.iload_n 2, 1) := by decide +kernel
theorem dX9_load_71 : decode cX9_load 71 = .ok (.bipush 8, 2) := by decide +kernel
theorem dX9_load_73 : decode cX9_load 73 = .ok (.if_icmp .ne 11, 3) := by decide +kernel
theorem dX9_load_76 : decode cX9_load 76 = .ok (.lload 6, 2) := by decide +kernel
theorem dX9_load_78 : decode cX9_load 78 = .ok (.lload 8, 2) := by decide +kernel
theorem dX9_load_80 : decode cX9_load 80 = .ok (.lsub, 1) := by decide +kernel
theorem dX9_load_81 : decode cX9_load 81 = .ok (.goto 29, 3) := by decide +kernel
theorem dX9_load_84 : decode cX9_load 84 = .ok (.iload_n 2, 1) := by decide +kernel
theorem dX9_load_85 : decode cX9_load 85 = .ok (.bipush 9, 2) := by decide +kernel
theorem dX9_load_87 : decode cX9_load 87 = .ok (.if_icmp .ne 13, 3) := by decide +kernel
theorem dX9_load_90 : decode cX9_load 90 = .ok (.lload 6, 2) := by decide +kernel
theorem dX9_load_92 : decode cX9_load 92 = .ok (.lload 8, 2) := by decide +kernel
theorem dX9_load_94 : decode cX9_load 94 = .ok (.ladd, 1) := by decide +kernel
theorem dX9_load_95 : decode cX9_load 95 = .ok (.iconst 1, 1) := by decide +kernel
theorem dX9_load_96 : decode cX9_load 96 = .ok (.lshr, 1) := by decide +kernel
theorem dX9_load_97 : decode cX9_load 97 = .ok (.goto 13, 3) := by decide +kernel
theorem dX9_load_100 : decode cX9_load 100 = .ok (.aload_n 0, 1) := by decide +kernel
theorem dX9_load_101 : decode cX9_load 101 = .ok (.getfield 27, 3) := by decide +kernel
theorem dX9_load_104 : decode cX9_load 104 = .ok (.iload 5, 2) := by decide +kernel
theorem dX9_load_106 : decode cX9_load 106 = .ok (.iload_n 2, 1) := by decide +kernel
theorem dX9_load_107 : decode cX9_load 107 = .ok (.iadd, 1) := by decide +kernel
theorem dX9_load_108 : decode cX9_load 108 = .ok (.iaload, 1) := by decide +kernel
theorem dX9_load_109 : decode cX9_load 109 = .ok (.i2l, 1) := by decide +kernel
theorem dX9_load_110 : decode cX9_load 110 = .ok (.lastore, 1) := by decide +kernel
theorem dX9_load_111 : decode cX9_load 111 = .ok (.iinc 4 1, 3) := by decide +kernel
theorem dX9_load_114 : decode cX9_load 114 = .ok (.goto (-106), 3) := by decide +kernel
theorem dX9_load_117 : decode cX9_load 117 = .ok (.return_, 1) := by decide +kernel
theorem dX9_bitsOf_0 : decode cX9_bitsOf 0 = .ok (.iload_n 1, 1) := by decide +kernel
theorem dX9_bitsOf_1 : decode cX9_bitsOf 1 = .ok (.bipush 8, 2) := by decide +kernel
theorem dX9_bitsOf_3 : decode cX9_bitsOf 3 = .ok (.if_icmp .ne 12, 3) := by decide +kernel
theorem dX9_bitsOf_6 : decode cX9_bitsOf 6 = .ok (.aload_n 0, 1) := by decide +kernel
theorem dX9_bitsOf_7 : decode cX9_bitsOf 7 = .ok (.getfield 13, 3) := by decide +kernel
theorem dX9_bitsOf_10 : decode cX9_bitsOf 10 = .ok (.iconst 1, 1) := by decide +kernel
theorem dX9_bitsOf_11 : decode cX9_bitsOf 11 = .ok (.iadd, 1) := by decide +kernel
theorem dX9_bitsOf_12 : decode cX9_bitsOf 12 = .ok (.goto 7, 3) := by decide +kernel
theorem dX9_bitsOf_15 : decode cX9_bitsOf 15 = .ok (.aload_n 0, 1) := by decide +kernel
theorem dX9_bitsOf_16 : decode cX9_bitsOf 16 = .ok (.getfield 13, 3) := by decide +kernel
theorem dX9_bitsOf_19 : decode cX9_bitsOf 19 = .ok (.ireturn, 1) := by decide +kernel
theorem dX9_measured_0 : decode cX9_measured 0 = .ok (.aload_n 0, 1) := by decide +kernel
theorem dX9_measured_1 : decode cX9_measured 1 = .ok (.iload_n 1, 1) := by decide +kernel
theorem dX9_measured_2 : decode cX9_measured 2 = .ok (.iload_n 2, 1) := by decide +kernel
theorem dX9_measured_3 : decode cX9_measured 3 = .ok (.iload_n 3, 1) := by decide +kernel
theorem dX9_measured_4 : decode cX9_measured 4 = .ok (.invokevirtual 203, 3) := by decide +kernel
theorem dX9_measured_7 : decode cX9_measured 7 = .ok (.aload_n 0, 1) := by decide +kernel
theorem dX9_measured_8 : decode cX9_measured 8 = .ok (.aload_n 0, 1) := by decide +kernel
theorem dX9_measured_9 : decode cX9_measured 9 = .ok (.iload_n 2, 1) := by decide +kernel
theorem dX9_measured_10 : decode cX9_measured 10 = .ok (.invokevirtual 207, 3) := by decide +kernel
theorem dX9_measured_13 : decode cX9_measured 13 = .ok (.invokevirtual 210, 3) := by decide +kernel
theorem dX9_measured_16 : decode cX9_measured 16 = .ok (.aload_n 0, 1) := by decide +kernel
theorem dX9_measured_17 : decode cX9_measured 17 = .ok (.getfield 154, 3) := by decide +kernel
theorem dX9_measured_20 : decode cX9_measured 20 = .ok (.lreturn, 1) := by decide +kernel
theorem dX9_rowOf_0 : decode cX9_rowOf 0 = .ok (.iload_n 0, 1) := by decide +kernel
theorem dX9_rowOf_1 : decode cX9_rowOf 1 = .ok (.bipush 8, 2) := by decide +kernel
theorem dX9_rowOf_3 : decode cX9_rowOf 3 = .ok (.if_icmp .ge 5, 3) := by decide +kernel
theorem dX9_rowOf_6 : decode cX9_rowOf 6 = .ok (.iload_n 1, 1) := by decide +kernel
theorem dX9_rowOf_7 : decode cX9_rowOf 7 = .ok (.ireturn, 1) := by decide +kernel
theorem dX9_rowOf_8 : decode cX9_rowOf 8 = .ok (.iload_n 0, 1) := by decide +kernel
theorem dX9_rowOf_9 : decode cX9_rowOf 9 = .ok (.bipush 9, 2) := by decide +kernel
theorem dX9_rowOf_11 : decode cX9_rowOf 11 = .ok (.if_icmp .ne 14, 3) := by decide +kernel
theorem dX9_rowOf_14 : decode cX9_rowOf 14 = .ok (.iload_n 1, 1) := by decide +kernel
theorem dX9_rowOf_15 : decode cX9_rowOf 15 = .ok (.ifCond .ne 8, 3) := by decide +kernel
theorem dX9_rowOf_18 : decode cX9_rowOf 18 = .ok (.bipush 8, 2) := by decide +kernel
theorem dX9_rowOf_20 : decode cX9_rowOf 20 = .ok (.goto 4, 3) := by decide +kernel
theorem dX9_rowOf_23 : decode cX9_rowOf 23 = .ok (.iconst 1, 1) := by decide +kernel
theorem dX9_rowOf_24 : decode cX9_rowOf 24 = .ok (.ireturn, 1) := by decide +kernel
theorem dX9_rowOf_25 : decode cX9_rowOf 25 = .ok (.iload_n 1, 1) := by decide +kernel
theorem dX9_rowOf_26 : decode cX9_rowOf 26 = .ok (.iconst 1, 1) := by decide +kernel
theorem dX9_rowOf_27 : decode cX9_rowOf 27 = .ok (.if_icmp .ne 8, 3) := by decide +kernel
theorem dX9_rowOf_30 : decode cX9_rowOf 30 = .ok (.bipush 8, 2) := by decide +kernel
theorem dX9_rowOf_32 : decode cX9_rowOf 32 = .ok (.goto 15, 3) := by decide +kernel
theorem dX9_rowOf_35 : decode cX9_rowOf 35 = .ok (.iload_n 0, 1) := by decide +kernel
theorem dX9_rowOf_36 : decode cX9_rowOf 36 = .ok (.bipush 8, 2) := by decide +kernel
theorem dX9_rowOf_38 : decode cX9_rowOf 38 = .ok (.if_icmp .ne 7, 3) := by decide +kernel
theorem dX9_rowOf_41 : decode cX9_rowOf 41 = .ok (.iconst 0, 1) := by decide +kernel
theorem dX9_rowOf_42 : decode cX9_rowOf 42 = .ok (.goto 5, 3) := by decide +kernel
theorem dX9_rowOf_45 : decode cX9_rowOf 45 = .ok (.bipush 9, 2) := by decide +kernel
theorem dX9_rowOf_47 : decode cX9_rowOf 47 = .ok (.ireturn, 1) := by decide +kernel
theorem dX9_assignment_0 : decode cX9_assignment 0 = .ok (.aload_n 0, 1) := by decide +kernel
theorem dX9_assignment_1 : decode cX9_assignment 1 = .ok (.getfield 7, 3) := by decide +kernel
theorem dX9_assignment_4 : decode cX9_assignment 4 = .ok (.iconst 2, 1) := by decide +kernel
theorem dX9_assignment_5 : decode cX9_assignment 5 = .ok (.if_icmp .eq 10, 3) := by decide +kernel
theorem dX9_assignment_8 : decode cX9_assignment 8 = .ok (.aload_n 0, 1) := by decide +kernel
theorem dX9_assignment_9 : decode cX9_assignment 9 = .ok (.getfield 7, 3) := by decide +kernel
theorem dX9_assignment_12 : decode cX9_assignment 12 = .ok (.iconst 1, 1) := by decide +kernel
theorem dX9_assignment_13 : decode cX9_assignment 13 = .ok (.isub, 1) := by decide +kernel
theorem dX9_assignment_14 : decode cX9_assignment 14 = .ok (.ireturn, 1) := by decide +kernel
theorem dX9_assignment_15 : decode cX9_assignment 15 = .ok (.aload_n 0, 1) := by decide +kernel
theorem dX9_assignment_16 : decode cX9_assignment 16 = .ok (.iload_n 1, 1) := by decide +kernel
theorem dX9_assignment_17 : decode cX9_assignment 17 = .ok (.iconst 0, 1) := by decide +kernel
theorem dX9_assignment_18 : decode cX9_assignment 18 = .ok (.iload_n 2, 1) := by decide +kernel
theorem dX9_assignment_19 : decode cX9_assignment 19 = .ok (.invokevirtual 214, 3) := by decide +kernel
theorem dX9_assignment_22 : decode cX9_assignment 22 = .ok (.lstore_n 3, 1) := by decide +kernel
theorem dX9_assignment_23 : decode cX9_assignment 23 = .ok (.aload_n 0, 1) := by decide +kernel
theorem dX9_assignment_24 : decode cX9_assignment 24 = .ok (.iload_n 1, 1) := by decide +kernel
theorem dX9_assignment_25 : decode cX9_assignment 25 = .ok (.iconst 1, 1) := by decide +kernel
theorem dX9_assignment_26 : decode cX9_assignment 26 = .ok (.iload_n 2, 1) := by decide +kernel
theorem dX9_assignment_27 : decode cX9_assignment 27 = .ok (.invokevirtual 214, 3) := by decide +kernel
theorem dX9_assignment_30 : decode cX9_assignment 30 = .ok (.lstore 5, 2) := by decide +kernel
theorem dX9_assignment_32 : decode cX9_assignment 32 = .ok (.aload_n 0, 1) := by decide +kernel
theorem dX9_assignment_33 : decode cX9_assignment 33 = .ok (.iload_n 1, 1) := by decide +kernel
theorem dX9_assignment_34 : decode cX9_assignment 34 = .ok (.bipush 8, 2) := by decide +kernel
theorem dX9_assignment_36 : decode cX9_assignment 36 = .ok (.iload_n 2, 1) := by decide +kernel
theorem dX9_assignment_37 : decode cX9_assignment 37 = .ok (.invokevirtual 214, 3) := by decide +kernel
theorem dX9_assignment_40 : decode cX9_assignment 40 = .ok (.lstore 7, 2) := by decide +kernel
theorem dX9_assignment_42 : decode cX9_assignment 42 = .ok (.aload_n 0, 1) := by decide +kernel
theorem dX9_assignment_43 : decode cX9_assignment 43 = .ok (.iload_n 1, 1) := by decide +kernel
theorem dX9_assignment_44 : decode cX9_assignment 44 = .ok (.bipush 9, 2) := by decide +kernel
theorem dX9_assignment_46 : decode cX9_assignment 46 = .ok (.iload_n 2, 1) := by decide +kernel
theorem dX9_assignment_47 : decode cX9_assignment 47 = .ok (.invokevirtual 214, 3) := by decide +kernel
theorem dX9_assignment_50 : decode cX9_assignment 50 = .ok (.lstore 9, 2) := by decide +kernel
theorem dX9_assignment_52 : decode cX9_assignment 52 = .ok (.iconst 1, 1) := by decide +kernel
theorem dX9_assignment_53 : decode cX9_assignment 53 = .ok (.istore 11, 2) := by decide +kernel
theorem dX9_assignment_55 : decode cX9_assignment 55 = .ok (.lload_n 3, 1) := by decide +kernel
theorem dX9_assignment_56 : decode cX9_assignment 56 = .ok (.lload 5, 2) := by decide +kernel
theorem dX9_assignment_58 : decode cX9_assignment 58 = .ok (.ladd, 1) := by decide +kernel
theorem dX9_assignment_59 : decode cX9_assignment 59 = .ok (.lstore 12, 2) := by decide +kernel
theorem dX9_assignment_61 : decode cX9_assignment 61 = .ok (.lload_n 3, 1) := by decide +kernel
theorem dX9_assignment_62 : decode cX9_assignment 62 = .ok (.lload 7, 2) := by decide +kernel
theorem dX9_assignment_64 : decode cX9_assignment 64 = .ok (.ladd, 1) := by decide +kernel
theorem dX9_assignment_65 : decode cX9_assignment 65 = .ok (.lload 12, 2) := by decide +kernel
theorem dX9_assignment_67 : decode cX9_assignment 67 = .ok (.lcmp, 1) := by decide +kernel
theorem dX9_assignment_68 : decode cX9_assignment 68 = .ok (.ifCond .ge 13, 3) := by decide +kernel
theorem dX9_assignment_71 : decode cX9_assignment 71 = .ok (.bipush 8, 2) := by decide +kernel
theorem dX9_assignment_73 : decode cX9_assignment 73 = .ok (.istore 11, 2) := by decide +kernel
theorem dX9_assignment_75 : decode cX9_assignment 75 = .ok (.lload_n 3, 1) := by decide +kernel
theorem dX9_assignment_76 : decode cX9_assignment 76 = .ok (.lload 7, 2) := by decide +kernel
theorem dX9_assignment_78 : decode cX9_assignment 78 = .ok (.ladd, 1) := by decide +kernel
theorem dX9_assignment_79 : decode cX9_assignment 79 = .ok (.lstore 12, 2) := by decide +kernel
theorem dX9_assignment_81 : decode cX9_assignment 81 = .ok (.lload 7, 2) := by decide +kernel
theorem dX9_assignment_83 : decode cX9_assignment 83 = .ok (.lload 5, 2) := by decide +kernel
theorem dX9_assignment_85 : decode cX9_assignment 85 = .ok (.ladd, 1) := by decide +kernel
theorem dX9_assignment_86 : decode cX9_assignment 86 = .ok (.lload 12, 2) := by decide +kernel
theorem dX9_assignment_88 : decode cX9_assignment 88 = .ok (.lcmp, 1) := by decide +kernel
theorem dX9_assignment_89 : decode cX9_assignment 89 = .ok (.ifCond .ge 14, 3) := by decide +kernel
theorem dX9_assignment_92 : decode cX9_assignment 92 = .ok (.bipush 9, 2) := by decide +kernel
theorem dX9_assignment_94 : decode cX9_assignment 94 = .ok (.istore 11, 2) := by decide +kernel
theorem dX9_assignment_96 : decode cX9_assignment 96 = .ok (.lload 7, 2) := by decide +kernel
theorem dX9_assignment_98 : decode cX9_assignment 98 = .ok (.lload 5, 2) := by decide +kernel
theorem dX9_assignment_100 : decode cX9_assignment 100 = .ok (.ladd, 1) := by decide +kernel
theorem dX9_assignment_101 : decode cX9_assignment 101 = .ok (.lstore 12, 2) := by decide +kernel
theorem dX9_assignment_103 : decode cX9_assignment 103 = .ok (.lload 9, 2) := by decide +kernel
theorem dX9_assignment_105 : decode cX9_assignment 105 = .ok (.lload 7, 2) := by decide +kernel
theorem dX9_assignment_107 : decode cX9_assignment 107 = .ok (.ladd, 1) := by decide +kernel
theorem dX9_assignment_108 : decode cX9_assignment 108 = .ok (.lload 12, 2) := by decide +kernel
theorem dX9_assignment_110 : decode cX9_assignment 110 = .ok (.lcmp, 1) := by decide +kernel
theorem dX9_assignment_111 : decode cX9_assignment 111 = .ok (.ifCond .ge 8, 3) := by decide +kernel
theorem dX9_assignment_114 : decode cX9_assignment 114 = .ok (.bipush 10, 2) := by decide +kernel
theorem dX9_assignment_116 : decode cX9_assignment 116 = .ok (.goto 5, 3) := by decide +kernel
theorem dX9_assignment_119 : decode cX9_assignment 119 = .ok (.iload 11, 2) := by decide +kernel
theorem dX9_assignment_121 : decode cX9_assignment 121 = .ok (.ireturn, 1) := by decide +kernel
theorem dX9_writeNumber_0 : decode cX9_writeNumber 0 = .ok (.iload_n 1, 1) := by decide +kernel
theorem dX9_writeNumber_1 : decode cX9_writeNumber 1 = .ok (.sipush 128, 3) := by decide +kernel
theorem dX9_writeNumber_4 : decode cX9_writeNumber 4 = .ok (.if_icmp .ge 14, 3) := by decide +kernel
theorem dX9_writeNumber_7 : decode cX9_writeNumber 7 = .ok (.aload_n 0, 1) := by decide +kernel
theorem dX9_writeNumber_8 : decode cX9_writeNumber 8 = .ok (.bipush 8, 2) := by decide +kernel
theorem dX9_writeNumber_10 : decode cX9_writeNumber 10 = .ok (.iload_n 1, 1) := by decide +kernel
theorem dX9_writeNumber_11 : decode cX9_writeNumber 11 = .ok (.i2l, 1) := by decide +kernel
theorem dX9_writeNumber_12 : decode cX9_writeNumber 12 = .ok (.invokevirtual 217, 3) := by decide +kernel
theorem dX9_writeNumber_15 : decode cX9_writeNumber 15 = .ok (.goto 33, 3) := by decide +kernel
theorem dX9_writeNumber_18 : decode cX9_writeNumber 18 = .ok (.aload_n 0, 1) := by decide +kernel
theorem dX9_writeNumber_19 : decode cX9_writeNumber 19 = .ok (.bipush 8, 2) := by decide +kernel
theorem dX9_writeNumber_21 : decode cX9_writeNumber 21 = .ok (.sipush 192, 3) := by decide +kernel
theorem dX9_writeNumber_24 : decode cX9_writeNumber 24 = .ok (.iload_n 1, 1) := by decide +kernel
theorem dX9_writeNumber_25 : decode cX9_writeNumber 25 = .ok (.bipush 64, 2) := by decide +kernel
theorem dX9_writeNumber_27 : decode cX9_writeNumber 27 = .ok (.idiv, 1) := by decide +kernel
theorem dX9_writeNumber_28 : decode cX9_writeNumber 28 = .ok (.iadd, 1) := by decide +kernel
theorem dX9_writeNumber_29 : decode cX9_writeNumber 29 = .ok (.i2l, 1) := by decide +kernel
theorem dX9_writeNumber_30 : decode cX9_writeNumber 30 = .ok (.invokevirtual 217, 3) := by decide +kernel
theorem dX9_writeNumber_33 : decode cX9_writeNumber 33 = .ok (.aload_n 0, 1) := by decide +kernel
theorem dX9_writeNumber_34 : decode cX9_writeNumber 34 = .ok (.bipush 8, 2) := by decide +kernel
theorem dX9_writeNumber_36 : decode cX9_writeNumber 36 = .ok (.sipush 128, 3) := by decide +kernel
theorem dX9_writeNumber_39 : decode cX9_writeNumber 39 = .ok (.iload_n 1, 1) := by decide +kernel
theorem dX9_writeNumber_40 : decode cX9_writeNumber 40 = .ok (.bipush 64, 2) := by decide +kernel
theorem dX9_writeNumber_42 : decode cX9_writeNumber 42 = .ok (.irem, 1) := by decide +kernel
theorem dX9_writeNumber_43 : decode cX9_writeNumber 43 = .ok (.iadd, 1) := by decide +kernel
theorem dX9_writeNumber_44 : decode cX9_writeNumber 44 = .ok (.i2l, 1) := by decide +kernel
theorem dX9_writeNumber_45 : decode cX9_writeNumber 45 = .ok (.invokevirtual 217, 3) := by decide +kernel
theorem dX9_writeNumber_48 : decode cX9_writeNumber 48 = .ok (.return_, 1) := by decide +kernel
theorem dX9_writeLeft_0 : decode cX9_writeLeft 0 = .ok (.aload_n 0, 1) := by decide +kernel
theorem dX9_writeLeft_1 : decode cX9_writeLeft 1 = .ok (.iconst 2, 1) := by decide +kernel
theorem dX9_writeLeft_2 : decode cX9_writeLeft 2 = .ok (.lconst 0, 1) := by decide +kernel
theorem dX9_writeLeft_3 : decode cX9_writeLeft 3 = .ok (.invokevirtual 217, 3) := by decide +kernel
theorem dX9_writeLeft_6 : decode cX9_writeLeft 6 = .ok (.aload_n 0, 1) := by decide +kernel
theorem dX9_writeLeft_7 : decode cX9_writeLeft 7 = .ok (.iconst 4, 1) := by decide +kernel
theorem dX9_writeLeft_8 : decode cX9_writeLeft 8 = .ok (.aload_n 0, 1) := by decide +kernel
theorem dX9_writeLeft_9 : decode cX9_writeLeft 9 = .ok (.getfield 161, 3) := by decide +kernel
theorem dX9_writeLeft_12 : decode cX9_writeLeft 12 = .ok (.i2l, 1) := by decide +kernel
theorem dX9_writeLeft_13 : decode cX9_writeLeft 13 = .ok (.invokevirtual 217, 3) := by decide +kernel
theorem dX9_writeLeft_16 : decode cX9_writeLeft 16 = .ok (.aload_n 0, 1) := by decide +kernel
theorem dX9_writeLeft_17 : decode cX9_writeLeft 17 = .ok (.getfield 108, 3) := by decide +kernel
theorem dX9_writeLeft_20 : decode cX9_writeLeft 20 = .ok (.aload_n 0, 1) := by decide +kernel
theorem dX9_writeLeft_21 : decode cX9_writeLeft 21 = .ok (.getfield 161, 3) := by decide +kernel
theorem dX9_writeLeft_24 : decode cX9_writeLeft 24 = .ok (.ishr, 1) := by decide +kernel
theorem dX9_writeLeft_25 : decode cX9_writeLeft 25 = .ok (.istore_n 2, 1) := by decide +kernel
theorem dX9_writeLeft_26 : decode cX9_writeLeft 26 = .ok (.iconst 0, 1) := by decide +kernel
theorem dX9_writeLeft_27 : decode cX9_writeLeft 27 = .ok (.istore_n 3, 1) := by decide +kernel
theorem dX9_writeLeft_28 : decode cX9_writeLeft 28 = .ok (.iload_n 3, 1) := by decide +kernel
theorem dX9_writeLeft_29 : decode cX9_writeLeft 29 = .ok (.iconst 1, 1) := by decide +kernel
theorem dX9_writeLeft_30 : decode cX9_writeLeft 30 = .ok (.aload_n 0, 1) := by decide +kernel
theorem dX9_writeLeft_31 : decode cX9_writeLeft 31 = .ok (.getfield 161, 3) := by decide +kernel
theorem dX9_writeLeft_34 : decode cX9_writeLeft 34 = .ok (.ishl, 1) := by decide +kernel
theorem dX9_writeLeft_35 : decode cX9_writeLeft 35 = .ok (.if_icmp .ge 122, 3) := by decide +kernel
theorem dX9_writeLeft_38 : decode cX9_writeLeft 38 = .ok (.iload_n 3, 1) := by decide +kernel
theorem dX9_writeLeft_39 : decode cX9_writeLeft 39 = .ok (.ifCond .ne 7, 3) := by decide +kernel
theorem dX9_writeLeft_42 : decode cX9_writeLeft 42 = .ok (.iload_n 1, 1) := by decide +kernel
theorem dX9_writeLeft_43 : decode cX9_writeLeft 43 = .ok (.goto 6, 3) := by decide +kernel
theorem dX9_writeLeft_46 : decode cX9_writeLeft 46 = .ok (.iload_n 3, 1) := by decide +kernel
theorem dX9_writeLeft_47 : decode cX9_writeLeft 47 = .ok (.iload_n 2, 1) := by decide +kernel
theorem dX9_writeLeft_48 : decode cX9_writeLeft 48 = .ok (.imul, 1) := by decide +kernel
theorem dX9_writeLeft_49 : decode cX9_writeLeft 49 = .ok (.istore 4, 2) := by decide +kernel
theorem dX9_writeLeft_51 : decode cX9_writeLeft 51 = .ok (.aload_n 0, 1) := by decide +kernel
theorem dX9_writeLeft_52 : decode cX9_writeLeft 52 = .ok (.iload 4, 2) := by decide +kernel
theorem dX9_writeLeft_54 : decode cX9_writeLeft 54 = .ok (.iload_n 3, 1) := by decide +kernel
theorem dX9_writeLeft_55 : decode cX9_writeLeft 55 = .ok (.iconst 1, 1) := by decide +kernel
theorem dX9_writeLeft_56 : decode cX9_writeLeft 56 = .ok (.iadd, 1) := by decide +kernel
theorem dX9_writeLeft_57 : decode cX9_writeLeft 57 = .ok (.iload_n 2, 1) := by decide +kernel
theorem dX9_writeLeft_58 : decode cX9_writeLeft 58 = .ok (.imul, 1) := by decide +kernel
theorem dX9_writeLeft_59 : decode cX9_writeLeft 59 = .ok (.invokevirtual 143, 3) := by decide +kernel
theorem dX9_writeLeft_62 : decode cX9_writeLeft 62 = .ok (.istore 5, 2) := by decide +kernel
theorem dX9_writeLeft_64 : decode cX9_writeLeft 64 = .ok (.aload_n 0, 1) := by decide +kernel
theorem dX9_writeLeft_65 : decode cX9_writeLeft 65 = .ok (.iconst 4, 1) := by decide +kernel
theorem dX9_writeLeft_66 : decode cX9_writeLeft 66 = .ok (.iload 5, 2) := by decide +kernel
theorem dX9_writeLeft_68 : decode cX9_writeLeft 68 = .ok (.i2l, 1) := by decide +kernel
theorem dX9_writeLeft_69 : decode cX9_writeLeft 69 = .ok (.invokevirtual 217, 3) := by decide +kernel
theorem dX9_writeLeft_72 : decode cX9_writeLeft 72 = .ok (.iload 4, 2) := by decide +kernel
theorem dX9_writeLeft_74 : decode cX9_writeLeft 74 = .ok (.istore 6, 2) := by decide +kernel
theorem dX9_writeLeft_76 : decode cX9_writeLeft 76 = .ok (.iload 6, 2) := by decide +kernel
theorem dX9_writeLeft_78 : decode cX9_writeLeft 78 = .ok (.iload_n 3, 1) := by decide +kernel
theorem dX9_writeLeft_79 : decode cX9_writeLeft 79 = .ok (.iconst 1, 1) := by decide +kernel
theorem dX9_writeLeft_80 : decode cX9_writeLeft 80 = .ok (.iadd, 1) := by decide +kernel
theorem dX9_writeLeft_81 : decode cX9_writeLeft 81 = .ok (.iload_n 2, 1) := by decide +kernel
theorem dX9_writeLeft_82 : decode cX9_writeLeft 82 = .ok (.imul, 1) := by decide +kernel
theorem dX9_writeLeft_83 : decode cX9_writeLeft 83 = .ok (.if_icmp .ge 68, 3) := by decide +kernel
theorem dX9_writeLeft_86 : decode cX9_writeLeft 86 = .ok (.aload_n 0, 1) := by decide +kernel
theorem dX9_writeLeft_87 : decode cX9_writeLeft 87 = .ok (.getfield 58, 3) := by decide +kernel
theorem dX9_writeLeft_90 : decode cX9_writeLeft 90 = .ok (.iload 6, 2) := by decide +kernel
theorem dX9_writeLeft_92 : decode cX9_writeLeft 92 = .ok (.laload, 1) := by decide +kernel
theorem dX9_writeLeft_93 : decode cX9_writeLeft 93 = .ok (.invokestatic 135, 3) := by decide +kernel
theorem dX9_writeLeft_96 : decode cX9_writeLeft 96 = .ok (.iload 5, 2) := by decide +kernel
theorem dX9_writeLeft_98 : decode cX9_writeLeft 98 = .ok (.lshr, 1) := by decide +kernel
theorem dX9_writeLeft_99 : decode cX9_writeLeft 99 = .ok (.lstore 7, 2) := by decide +kernel
theorem dX9_writeLeft_101 : decode cX9_writeLeft 101 = .ok (.lload 7, 2) := by decide +kernel
theorem dX9_writeLeft_103 : decode cX9_writeLeft 103 = .ok (.lconst 0, 1) := by decide +kernel
theorem dX9_writeLeft_104 : decode cX9_writeLeft 104 = .ok (.lcmp, 1) := by decide +kernel
theorem dX9_writeLeft_105 : decode cX9_writeLeft 105 = .ok (.ifCond .le 18, 3) := by decide +kernel
theorem dX9_writeLeft_108 : decode cX9_writeLeft 108 = .ok (.aload_n 0, 1) := by decide +kernel
theorem dX9_writeLeft_109 : decode cX9_writeLeft 109 = .ok (.iconst 1, 1) := by decide +kernel
theorem dX9_writeLeft_110 : decode cX9_writeLeft 110 = .ok (.lconst 0, 1) := by decide +kernel
theorem dX9_writeLeft_111 : decode cX9_writeLeft 111 = .ok (.invokevirtual 217, 3) := by decide +kernel
theorem dX9_writeLeft_114 : decode cX9_writeLeft 114 = .ok (.lload 7, 2) := by decide +kernel
theorem dX9_writeLeft_116 : decode cX9_writeLeft 116 = .ok (.lconst 1, 1) := by decide +kernel
theorem dX9_writeLeft_117 : decode cX9_writeLeft 117 = .ok (.lsub, 1) := by decide +kernel
theorem dX9_writeLeft_118 : decode cX9_writeLeft 118 = .ok (.lstore 7, 2) := by decide +kernel
theorem dX9_writeLeft_120 : decode cX9_writeLeft 120 = .ok (.goto (-19), 3) := by decide +kernel
theorem dX9_writeLeft_123 : decode cX9_writeLeft 123 = .ok (.aload_n 0, 1) := by decide +kernel
theorem dX9_writeLeft_124 : decode cX9_writeLeft 124 = .ok (.iconst 1, 1) := by decide +kernel
theorem dX9_writeLeft_125 : decode cX9_writeLeft 125 = .ok (.lconst 1, 1) := by decide +kernel
theorem dX9_writeLeft_126 : decode cX9_writeLeft 126 = .ok (.invokevirtual 217, 3) := by decide +kernel
theorem dX9_writeLeft_129 : decode cX9_writeLeft 129 = .ok (.aload_n 0, 1) := by decide +kernel
theorem dX9_writeLeft_130 : decode cX9_writeLeft 130 = .ok (.iload 5, 2) := by decide +kernel
theorem dX9_writeLeft_132 : decode cX9_writeLeft 132 = .ok (.aload_n 0, 1) := by decide +kernel
theorem dX9_writeLeft_133 : decode cX9_writeLeft 133 = .ok (.getfield 58, 3) := by decide +kernel
theorem dX9_writeLeft_136 : decode cX9_writeLeft 136 = .ok (.iload 6, 2) := by decide +kernel
theorem dX9_writeLeft_138 : decode cX9_writeLeft 138 = .ok (.laload, 1) := by decide +kernel
theorem dX9_writeLeft_139 : decode cX9_writeLeft 139 = .ok (.invokestatic 135, 3) := by decide +kernel
theorem dX9_writeLeft_142 : decode cX9_writeLeft 142 = .ok (.invokevirtual 217, 3) := by decide +kernel
theorem dX9_writeLeft_145 : decode cX9_writeLeft 145 = .ok (.iinc 6 1, 3) := by decide +kernel
theorem dX9_writeLeft_148 : decode cX9_writeLeft 148 = .ok (.goto (-72), 3) := by decide +kernel
theorem dX9_writeLeft_151 : decode cX9_writeLeft 151 = .ok (.iinc 3 1, 3) := by decide +kernel
theorem dX9_writeLeft_154 : decode cX9_writeLeft 154 = .ok (.goto (-126), 3) := by decide +kernel
theorem dX9_writeLeft_157 : decode cX9_writeLeft 157 = .ok (.return_, 1) := by decide +kernel
theorem dX9_writeRow_0 : decode cX9_writeRow 0 = .ok (.aload_n 0, 1) := by decide +kernel
theorem dX9_writeRow_1 : decode cX9_writeRow 1 = .ok (.iconst 1, 1) := by decide +kernel
theorem dX9_writeRow_2 : decode cX9_writeRow 2 = .ok (.lconst 0, 1) := by decide +kernel
theorem dX9_writeRow_3 : decode cX9_writeRow 3 = .ok (.invokevirtual 217, 3) := by decide +kernel
theorem dX9_writeRow_6 : decode cX9_writeRow 6 = .ok (.aload_n 0, 1) := by decide +kernel
theorem dX9_writeRow_7 : decode cX9_writeRow 7 = .ok (.bipush 6, 2) := by decide +kernel
theorem dX9_writeRow_9 : decode cX9_writeRow 9 = .ok (.aload_n 0, 1) := by decide +kernel
theorem dX9_writeRow_10 : decode cX9_writeRow 10 = .ok (.getfield 158, 3) := by decide +kernel
theorem dX9_writeRow_13 : decode cX9_writeRow 13 = .ok (.i2l, 1) := by decide +kernel
theorem dX9_writeRow_14 : decode cX9_writeRow 14 = .ok (.invokevirtual 217, 3) := by decide +kernel
theorem dX9_writeRow_17 : decode cX9_writeRow 17 = .ok (.aload_n 0, 1) := by decide +kernel
theorem dX9_writeRow_18 : decode cX9_writeRow 18 = .ok (.iconst 1, 1) := by decide +kernel
theorem dX9_writeRow_19 : decode cX9_writeRow 19 = .ok (.aload_n 0, 1) := by decide +kernel
theorem dX9_writeRow_20 : decode cX9_writeRow 20 = .ok (.getfield 168, 3) := by decide +kernel
theorem dX9_writeRow_23 : decode cX9_writeRow 23 = .ok (.ifCond .le 7, 3) := by decide +kernel
theorem dX9_writeRow_26 : decode cX9_writeRow 26 = .ok (.lconst 1, 1) := by decide +kernel
theorem dX9_writeRow_27 : decode cX9_writeRow 27 = .ok (.goto 4, 3) := by decide +kernel
theorem dX9_writeRow_30 : decode cX9_writeRow 30 = .ok (.lconst 0, 1) := by decide +kernel
theorem dX9_writeRow_31 : decode cX9_writeRow 31 = .ok (.invokevirtual 217, 3) := by decide +kernel
theorem dX9_writeRow_34 : decode cX9_writeRow 34 = .ok (.iconst 1, 1) := by decide +kernel
theorem dX9_writeRow_35 : decode cX9_writeRow 35 = .ok (.istore_n 2, 1) := by decide +kernel
theorem dX9_writeRow_36 : decode cX9_writeRow 36 = .ok (.iload_n 2, 1) := by decide +kernel
theorem dX9_writeRow_37 : decode cX9_writeRow 37 = .ok (.aload_n 0, 1) := by decide +kernel
theorem dX9_writeRow_38 : decode cX9_writeRow 38 = .ok (.getfield 168, 3) := by decide +kernel
theorem dX9_writeRow_41 : decode cX9_writeRow 41 = .ok (.if_icmp .ge 15, 3) := by decide +kernel
theorem dX9_writeRow_44 : decode cX9_writeRow 44 = .ok (.aload_n 0, 1) := by decide +kernel
theorem dX9_writeRow_45 : decode cX9_writeRow 45 = .ok (.iconst 1, 1) := by decide +kernel
theorem dX9_writeRow_46 : decode cX9_writeRow 46 = .ok (.lconst 0, 1) := by decide +kernel
theorem dX9_writeRow_47 : decode cX9_writeRow 47 = .ok (.invokevirtual 217, 3) := by decide +kernel
theorem dX9_writeRow_50 : decode cX9_writeRow 50 = .ok (.iinc 2 1, 3) := by decide +kernel
theorem dX9_writeRow_53 : decode cX9_writeRow 53 = .ok (.goto (-17), 3) := by decide +kernel
theorem dX9_writeRow_56 : decode cX9_writeRow 56 = .ok (.aload_n 0, 1) := by decide +kernel
theorem dX9_writeRow_57 : decode cX9_writeRow 57 = .ok (.getfield 168, 3) := by decide +kernel
theorem dX9_writeRow_60 : decode cX9_writeRow 60 = .ok (.ifCond .le 9, 3) := by decide +kernel
theorem dX9_writeRow_63 : decode cX9_writeRow 63 = .ok (.aload_n 0, 1) := by decide +kernel
theorem dX9_writeRow_64 : decode cX9_writeRow 64 = .ok (.iconst 1, 1) := by decide +kernel
theorem dX9_writeRow_65 : decode cX9_writeRow 65 = .ok (.lconst 1, 1) := by decide +kernel
theorem dX9_writeRow_66 : decode cX9_writeRow 66 = .ok (.invokevirtual 217, 3) := by decide +kernel
theorem dX9_writeRow_69 : decode cX9_writeRow 69 = .ok (.aload_n 0, 1) := by decide +kernel
theorem dX9_writeRow_70 : decode cX9_writeRow 70 = .ok (.getfield 158, 3) := by decide +kernel
theorem dX9_writeRow_73 : decode cX9_writeRow 73 = .ok (.ifCond .ne 7, 3) := by decide +kernel
theorem dX9_writeRow_76 : decode cX9_writeRow 76 = .ok (.iconst 1, 1) := by decide +kernel
theorem dX9_writeRow_77 : decode cX9_writeRow 77 = .ok (.goto 25, 3) := by decide +kernel
theorem dX9_writeRow_80 : decode cX9_writeRow 80 = .ok (.aload_n 0, 1) := by decide +kernel
theorem dX9_writeRow_81 : decode cX9_writeRow 81 = .ok (.getfield 158, 3) := by decide +kernel
theorem dX9_writeRow_84 : decode cX9_writeRow 84 = .ok (.iconst 1, 1) := by decide +kernel
theorem dX9_writeRow_85 : decode cX9_writeRow 85 = .ok (.if_icmp .ne 10, 3) := by decide +kernel
theorem dX9_writeRow_88 : decode cX9_writeRow 88 = .ok (.aload_n 0, 1) := by decide +kernel
theorem dX9_writeRow_89 : decode cX9_writeRow 89 = .ok (.getfield 108, 3) := by decide +kernel
theorem dX9_writeRow_92 : decode cX9_writeRow 92 = .ok (.goto 10, 3) := by decide +kernel
theorem dX9_writeRow_95 : decode cX9_writeRow 95 = .ok (.aload_n 0, 1) := by decide +kernel
theorem dX9_writeRow_96 : decode cX9_writeRow 96 = .ok (.getfield 158, 3) := by decide +kernel
theorem dX9_writeRow_99 : decode cX9_writeRow 99 = .ok (.invokestatic 117, 3) := by decide +kernel
theorem dX9_writeRow_102 : decode cX9_writeRow 102 = .ok (.istore_n 2, 1) := by decide +kernel
theorem dX9_writeRow_103 : decode cX9_writeRow 103 = .ok (.iconst 0, 1) := by decide +kernel
theorem dX9_writeRow_104 : decode cX9_writeRow 104 = .ok (.istore_n 3, 1) := by decide +kernel
theorem dX9_writeRow_105 : decode cX9_writeRow 105 = .ok (.iload_n 3, 1) := by decide +kernel
theorem dX9_writeRow_106 : decode cX9_writeRow 106 = .ok (.iload_n 2, 1) := by decide +kernel
theorem dX9_writeRow_107 : decode cX9_writeRow 107 = .ok (.if_icmp .ge 20, 3) := by decide +kernel
theorem dX9_writeRow_110 : decode cX9_writeRow 110 = .ok (.aload_n 0, 1) := by decide +kernel
theorem dX9_writeRow_111 : decode cX9_writeRow 111 = .ok (.iload_n 1, 1) := by decide +kernel
theorem dX9_writeRow_112 : decode cX9_writeRow 112 = .ok (.aload_n 0, 1) := by decide +kernel
theorem dX9_writeRow_113 : decode cX9_writeRow 113 = .ok (.getfield 55, 3) := by decide +kernel
theorem dX9_writeRow_116 : decode cX9_writeRow 116 = .ok (.iload_n 3, 1) := by decide +kernel
theorem dX9_writeRow_117 : decode cX9_writeRow 117 = .ok (.laload, 1) := by decide +kernel
theorem dX9_writeRow_118 : decode cX9_writeRow 118 = .ok (.invokevirtual 217, 3) := by decide +kernel
theorem dX9_writeRow_121 : decode cX9_writeRow 121 = .ok (.iinc 3 1, 3) := by decide +kernel
theorem dX9_writeRow_124 : decode cX9_writeRow 124 = .ok (.goto (-19), 3) := by decide +kernel
theorem dX9_writeRow_127 : decode cX9_writeRow 127 = .ok (.aload_n 0, 1) := by decide +kernel
theorem dX9_writeRow_128 : decode cX9_writeRow 128 = .ok (.getfield 158, 3) := by decide +kernel
theorem dX9_writeRow_131 : decode cX9_writeRow 131 = .ok (.bipush 8, 2) := by decide +kernel
theorem dX9_writeRow_133 : decode cX9_writeRow 133 = .ok (.if_icmp .ge 4, 3) := by decide +kernel
theorem dX9_writeRow_136 : decode cX9_writeRow 136 = .ok (.return_, 1) := by decide +kernel
theorem dX9_writeRow_137 : decode cX9_writeRow 137 = .ok (.aload_n 0, 1) := by decide +kernel
theorem dX9_writeRow_138 : decode cX9_writeRow 138 = .ok (.aload_n 0, 1) := by decide +kernel
theorem dX9_writeRow_139 : decode cX9_writeRow 139 = .ok (.getfield 158, 3) := by decide +kernel
theorem dX9_writeRow_142 : decode cX9_writeRow 142 = .ok (.invokevirtual 181, 3) := by decide +kernel
theorem dX9_writeRow_145 : decode cX9_writeRow 145 = .ok (.istore_n 3, 1) := by decide +kernel
theorem dX9_writeRow_146 : decode cX9_writeRow 146 = .ok (.aload_n 0, 1) := by decide +kernel
theorem dX9_writeRow_147 : decode cX9_writeRow 147 = .ok (.getfield 158, 3) := by decide +kernel
theorem dX9_writeRow_150 : decode cX9_writeRow 150 = .ok (.bipush 31, 2) := by decide +kernel
theorem dX9_writeRow_152 : decode cX9_writeRow 152 = .ok (.if_icmp .le 53, 3) := by decide +kernel
theorem dX9_writeRow_155 : decode cX9_writeRow 155 = .ok (.aload_n 0, 1) := by decide +kernel
theorem dX9_writeRow_156 : decode cX9_writeRow 156 = .ok (.iconst 4, 1) := by decide +kernel
theorem dX9_writeRow_157 : decode cX9_writeRow 157 = .ok (.ldc2_w 92, 3) := by decide +kernel
theorem dX9_writeRow_160 : decode cX9_writeRow 160 = .ok (.invokevirtual 217, 3) := by decide +kernel
theorem dX9_writeRow_163 : decode cX9_writeRow 163 = .ok (.aload_n 0, 1) := by decide +kernel
theorem dX9_writeRow_164 : decode cX9_writeRow 164 = .ok (.iconst 5, 1) := by decide +kernel
theorem dX9_writeRow_165 : decode cX9_writeRow 165 = .ok (.aload_n 0, 1) := by decide +kernel
theorem dX9_writeRow_166 : decode cX9_writeRow 166 = .ok (.getfield 94, 3) := by decide +kernel
theorem dX9_writeRow_169 : decode cX9_writeRow 169 = .ok (.i2l, 1) := by decide +kernel
theorem dX9_writeRow_170 : decode cX9_writeRow 170 = .ok (.invokevirtual 217, 3) := by decide +kernel
theorem dX9_writeRow_173 : decode cX9_writeRow 173 = .ok (.iconst 0, 1) := by decide +kernel
theorem dX9_writeRow_174 : decode cX9_writeRow 174 = .ok (.istore 4, 2) := by decide +kernel
theorem dX9_writeRow_176 : decode cX9_writeRow 176 = .ok (.iload 4, 2) := by decide +kernel
theorem dX9_writeRow_178 : decode cX9_writeRow 178 = .ok (.aload_n 0, 1) := by decide +kernel
theorem dX9_writeRow_179 : decode cX9_writeRow 179 = .ok (.getfield 97, 3) := by decide +kernel
theorem dX9_writeRow_182 : decode cX9_writeRow 182 = .ok (.if_icmp .ge 23, 3) := by decide +kernel
theorem dX9_writeRow_185 : decode cX9_writeRow 185 = .ok (.aload_n 0, 1) := by decide +kernel
theorem dX9_writeRow_186 : decode cX9_writeRow 186 = .ok (.bipush 15, 2) := by decide +kernel
theorem dX9_writeRow_188 : decode cX9_writeRow 188 = .ok (.aload_n 0, 1) := by decide +kernel
theorem dX9_writeRow_189 : decode cX9_writeRow 189 = .ok (.getfield 23, 3) := by decide +kernel
theorem dX9_writeRow_192 : decode cX9_writeRow 192 = .ok (.iload 4, 2) := by decide +kernel
theorem dX9_writeRow_194 : decode cX9_writeRow 194 = .ok (.iaload, 1) := by decide +kernel
theorem dX9_writeRow_195 : decode cX9_writeRow 195 = .ok (.i2l, 1) := by decide +kernel
theorem dX9_writeRow_196 : decode cX9_writeRow 196 = .ok (.invokevirtual 217, 3) := by decide +kernel
theorem dX9_writeRow_199 : decode cX9_writeRow 199 = .ok (.iinc 4 1, 3) := by decide +kernel
theorem dX9_writeRow_202 : decode cX9_writeRow 202 = .ok (.goto (-26), 3) := by decide +kernel
theorem dX9_writeRow_205 : decode cX9_writeRow 205 = .ok (.aload_n 0, 1) := by decide +kernel
theorem dX9_writeRow_206 : decode cX9_writeRow 206 = .ok (.aload_n 0, 1) := by decide +kernel
theorem dX9_writeRow_207 : decode cX9_writeRow 207 = .ok (.getfield 158, 3) := by decide +kernel
theorem dX9_writeRow_210 : decode cX9_writeRow 210 = .ok (.invokestatic 117, 3) := by decide +kernel
theorem dX9_writeRow_213 : decode cX9_writeRow 213 = .ok (.invokevirtual 221, 3) := by decide +kernel
theorem dX9_writeRow_216 : decode cX9_writeRow 216 = .ok (.return_, 1) := by decide +kernel
theorem dX9_writeFrame_0 : decode cX9_writeFrame 0 = .ok (.aload_n 0, 1) := by decide +kernel
theorem dX9_writeFrame_1 : decode cX9_writeFrame 1 = .ok (.getfield 192, 3) := by decide +kernel
theorem dX9_writeFrame_4 : decode cX9_writeFrame 4 = .ok (.ldc2_w 73, 3) := by decide +kernel
theorem dX9_writeFrame_7 : decode cX9_writeFrame 7 = .ok (.ldiv, 1) := by decide +kernel
theorem dX9_writeFrame_8 : decode cX9_writeFrame 8 = .ok (.l2i, 1) := by decide +kernel
theorem dX9_writeFrame_9 : decode cX9_writeFrame 9 = .ok (.istore_n 3, 1) := by decide +kernel
theorem dX9_writeFrame_10 : decode cX9_writeFrame 10 = .ok (.aload_n 0, 1) := by decide +kernel
theorem dX9_writeFrame_11 : decode cX9_writeFrame 11 = .ok (.getfield 46, 3) := by decide +kernel
theorem dX9_writeFrame_14 : decode cX9_writeFrame 14 = .ok (.iload_n 1, 1) := by decide +kernel
theorem dX9_writeFrame_15 : decode cX9_writeFrame 15 = .ok (.aload_n 0, 1) := by decide +kernel
theorem dX9_writeFrame_16 : decode cX9_writeFrame 16 = .ok (.iload_n 1, 1) := by decide +kernel
theorem dX9_writeFrame_17 : decode cX9_writeFrame 17 = .ok (.iload_n 2, 1) := by decide +kernel
theorem dX9_writeFrame_18 : decode cX9_writeFrame 18 = .ok (.invokevirtual 224, 3) := by decide +kernel
theorem dX9_writeFrame_21 : decode cX9_writeFrame 21 = .ok (.iastore, 1) := by decide +kernel
theorem dX9_writeFrame_22 : decode cX9_writeFrame 22 = .ok (.aload_n 0, 1) := by decide +kernel
theorem dX9_writeFrame_23 : decode cX9_writeFrame 23 = .ok (.bipush 14, 2) := by decide +kernel
theorem dX9_writeFrame_25 : decode cX9_writeFrame 25 = .ok (.ldc2_w 227, 3) := by decide +kernel
theorem dX9_writeFrame_28 : decode cX9_writeFrame 28 = .ok (.invokevirtual 217, 3) := by decide +kernel
theorem dX9_writeFrame_31 : decode cX9_writeFrame 31 = .ok (.aload_n 0, 1) := by decide +kernel
theorem dX9_writeFrame_32 : decode cX9_writeFrame 32 = .ok (.iconst 2, 1) := by decide +kernel
theorem dX9_writeFrame_33 : decode cX9_writeFrame 33 = .ok (.lconst 0, 1) := by decide +kernel
theorem dX9_writeFrame_34 : decode cX9_writeFrame 34 = .ok (.invokevirtual 217, 3) := by decide +kernel
theorem dX9_writeFrame_37 : decode cX9_writeFrame 37 = .ok (.aload_n 0, 1) := by decide +kernel
theorem dX9_writeFrame_38 : decode cX9_writeFrame 38 = .ok (.iconst 4, 1) := by decide +kernel
theorem dX9_writeFrame_39 : decode cX9_writeFrame 39 = .ok (.ldc2_w 115, 3) := by decide +kernel
theorem dX9_writeFrame_42 : decode cX9_writeFrame 42 = .ok (.invokevirtual 217, 3) := by decide +kernel
theorem dX9_writeFrame_45 : decode cX9_writeFrame 45 = .ok (.aload_n 0, 1) := by decide +kernel
theorem dX9_writeFrame_46 : decode cX9_writeFrame 46 = .ok (.iconst 4, 1) := by decide +kernel
theorem dX9_writeFrame_47 : decode cX9_writeFrame 47 = .ok (.lconst 0, 1) := by decide +kernel
theorem dX9_writeFrame_48 : decode cX9_writeFrame 48 = .ok (.invokevirtual 217, 3) := by decide +kernel
theorem dX9_writeFrame_51 : decode cX9_writeFrame 51 = .ok (.aload_n 0, 1) := by decide +kernel
theorem dX9_writeFrame_52 : decode cX9_writeFrame 52 = .ok (.iconst 4, 1) := by decide +kernel
theorem dX9_writeFrame_53 : decode cX9_writeFrame 53 = .ok (.aload_n 0, 1) := by decide +kernel
theorem dX9_writeFrame_54 : decode cX9_writeFrame 54 = .ok (.getfield 46, 3) := by decide +kernel
theorem dX9_writeFrame_57 : decode cX9_writeFrame 57 = .ok (.iload_n 1, 1) := by decide +kernel
theorem dX9_writeFrame_58 : decode cX9_writeFrame 58 = .ok (.iaload, 1) := by decide +kernel
theorem dX9_writeFrame_59 : decode cX9_writeFrame 59 = .ok (.i2l, 1) := by decide +kernel
theorem dX9_writeFrame_60 : decode cX9_writeFrame 60 = .ok (.invokevirtual 217, 3) := by decide +kernel
theorem dX9_writeFrame_63 : decode cX9_writeFrame 63 = .ok (.aload_n 0, 1) := by decide +kernel
theorem dX9_writeFrame_64 : decode cX9_writeFrame 64 = .ok (.iconst 4, 1) := by decide +kernel
theorem dX9_writeFrame_65 : decode cX9_writeFrame 65 = .ok (.lconst 0, 1) := by decide +kernel
theorem dX9_writeFrame_66 : decode cX9_writeFrame 66 = .ok (.invokevirtual 217, 3) := by decide +kernel
theorem dX9_writeFrame_69 : decode cX9_writeFrame 69 = .ok (.aload_n 0, 1) := by decide +kernel
theorem dX9_writeFrame_70 : decode cX9_writeFrame 70 = .ok (.iload_n 1, 1) := by decide +kernel
theorem dX9_writeFrame_71 : decode cX9_writeFrame 71 = .ok (.invokevirtual 229, 3) := by decide +kernel
theorem dX9_writeFrame_74 : decode cX9_writeFrame 74 = .ok (.aload_n 0, 1) := by decide +kernel
theorem dX9_writeFrame_75 : decode cX9_writeFrame 75 = .ok (.bipush 8, 2) := by decide +kernel
theorem dX9_writeFrame_77 : decode cX9_writeFrame 77 = .ok (.iload_n 2, 1) := by decide +kernel
theorem dX9_writeFrame_78 : decode cX9_writeFrame 78 = .ok (.iconst 1, 1) := by decide +kernel
theorem dX9_writeFrame_79 : decode cX9_writeFrame 79 = .ok (.isub, 1) := by decide +kernel
theorem dX9_writeFrame_80 : decode cX9_writeFrame 80 = .ok (.i2l, 1) := by decide +kernel
theorem dX9_writeFrame_81 : decode cX9_writeFrame 81 = .ok (.invokevirtual 217, 3) := by decide +kernel
theorem dX9_writeFrame_84 : decode cX9_writeFrame 84 = .ok (.aload_n 0, 1) := by decide +kernel
theorem dX9_writeFrame_85 : decode cX9_writeFrame 85 = .ok (.bipush 8, 2) := by decide +kernel
theorem dX9_writeFrame_87 : decode cX9_writeFrame 87 = .ok (.aload_n 0, 1) := by decide +kernel
theorem dX9_writeFrame_88 : decode cX9_writeFrame 88 = .ok (.getfield 30, 3) := by decide +kernel
theorem dX9_writeFrame_91 : decode cX9_writeFrame 91 = .ok (.iload_n 3, 1) := by decide +kernel
theorem dX9_writeFrame_92 : decode cX9_writeFrame 92 = .ok (.aload_n 0, 1) := by decide +kernel
theorem dX9_writeFrame_93 : decode cX9_writeFrame 93 = .ok (.getfield 192, 3) := by decide +kernel
theorem dX9_writeFrame_96 : decode cX9_writeFrame 96 = .ok (.ldc2_w 73, 3) := by decide +kernel
theorem dX9_writeFrame_99 : decode cX9_writeFrame 99 = .ok (.ldiv, 1) := by decide +kernel
theorem dX9_writeFrame_100 : decode cX9_writeFrame 100 = .ok (.l2i, 1) := by decide +kernel
theorem dX9_writeFrame_101 : decode cX9_writeFrame 101 = .ok (.iconst 0, 1) := by decide +kernel
theorem dX9_writeFrame_102 : decode cX9_writeFrame 102 = .ok (.invokestatic 232, 3) := by decide +kernel
theorem dX9_writeFrame_105 : decode cX9_writeFrame 105 = .ok (.i2l, 1) := by decide +kernel
theorem dX9_writeFrame_106 : decode cX9_writeFrame 106 = .ok (.invokevirtual 217, 3) := by decide +kernel
theorem dX9_writeFrame_109 : decode cX9_writeFrame 109 = .ok (.iconst 0, 1) := by decide +kernel
theorem dX9_writeFrame_110 : decode cX9_writeFrame 110 = .ok (.istore 4, 2) := by decide +kernel
theorem dX9_writeFrame_112 : decode cX9_writeFrame 112 = .ok (.iload 4, 2) := by decide +kernel
theorem dX9_writeFrame_114 : decode cX9_writeFrame 114 = .ok (.aload_n 0, 1) := by decide +kernel
theorem dX9_writeFrame_115 : decode cX9_writeFrame 115 = .ok (.getfield 7, 3) := by decide +kernel
theorem dX9_writeFrame_118 : decode cX9_writeFrame 118 = .ok (.if_icmp .ge 101, 3) := by decide +kernel
theorem dX9_writeFrame_121 : decode cX9_writeFrame 121 = .ok (.aload_n 0, 1) := by decide +kernel
theorem dX9_writeFrame_122 : decode cX9_writeFrame 122 = .ok (.getfield 46, 3) := by decide +kernel
theorem dX9_writeFrame_125 : decode cX9_writeFrame 125 = .ok (.iload_n 1, 1) := by decide +kernel
theorem dX9_writeFrame_126 : decode cX9_writeFrame 126 = .ok (.iaload, 1) := by decide +kernel
theorem dX9_writeFrame_127 : decode cX9_writeFrame 127 = .ok (.iload 4, 2) := by decide +kernel
theorem dX9_writeFrame_129 : decode cX9_writeFrame 129 = .ok (.invokestatic 236, 3) := by decide +kernel
theorem dX9_writeFrame_132 : decode cX9_writeFrame 132 = .ok (.istore 5, 2) := by decide +kernel
theorem dX9_writeFrame_134 : decode cX9_writeFrame 134 = .ok (.aload_n 0, 1) := by decide +kernel
theorem dX9_writeFrame_135 : decode cX9_writeFrame 135 = .ok (.iload_n 1, 1) := by decide +kernel
theorem dX9_writeFrame_136 : decode cX9_writeFrame 136 = .ok (.iload 5, 2) := by decide +kernel
theorem dX9_writeFrame_138 : decode cX9_writeFrame 138 = .ok (.iload_n 2, 1) := by decide +kernel
theorem dX9_writeFrame_139 : decode cX9_writeFrame 139 = .ok (.invokevirtual 214, 3) := by decide +kernel
theorem dX9_writeFrame_142 : decode cX9_writeFrame 142 = .ok (.lstore 6, 2) := by decide +kernel
theorem dX9_writeFrame_144 : decode cX9_writeFrame 144 = .ok (.iload_n 1, 1) := by decide +kernel
theorem dX9_writeFrame_145 : decode cX9_writeFrame 145 = .ok (.aload_n 0, 1) := by decide +kernel
theorem dX9_writeFrame_146 : decode cX9_writeFrame 146 = .ok (.getfield 7, 3) := by decide +kernel
theorem dX9_writeFrame_149 : decode cX9_writeFrame 149 = .ok (.imul, 1) := by decide +kernel
theorem dX9_writeFrame_150 : decode cX9_writeFrame 150 = .ok (.iload 4, 2) := by decide +kernel
theorem dX9_writeFrame_152 : decode cX9_writeFrame 152 = .ok (.iadd, 1) := by decide +kernel
theorem dX9_writeFrame_153 : decode cX9_writeFrame 153 = .ok (.istore 8, 2) := by decide +kernel
theorem dX9_writeFrame_155 : decode cX9_writeFrame 155 = .ok (.aload_n 0, 1) := by decide +kernel
theorem dX9_writeFrame_156 : decode cX9_writeFrame 156 = .ok (.getfield 34, 3) := by decide +kernel
theorem dX9_writeFrame_159 : decode cX9_writeFrame 159 = .ok (.iload 8, 2) := by decide +kernel
theorem dX9_writeFrame_161 : decode cX9_writeFrame 161 = .ok (.aload_n 0, 1) := by decide +kernel
theorem dX9_writeFrame_162 : decode cX9_writeFrame 162 = .ok (.getfield 158, 3) := by decide +kernel
theorem dX9_writeFrame_165 : decode cX9_writeFrame 165 = .ok (.iastore, 1) := by decide +kernel
theorem dX9_writeFrame_166 : decode cX9_writeFrame 166 = .ok (.aload_n 0, 1) := by decide +kernel
theorem dX9_writeFrame_167 : decode cX9_writeFrame 167 = .ok (.getfield 37, 3) := by decide +kernel
theorem dX9_writeFrame_170 : decode cX9_writeFrame 170 = .ok (.iload 8, 2) := by decide +kernel
theorem dX9_writeFrame_172 : decode cX9_writeFrame 172 = .ok (.aload_n 0, 1) := by decide +kernel
theorem dX9_writeFrame_173 : decode cX9_writeFrame 173 = .ok (.getfield 168, 3) := by decide +kernel
theorem dX9_writeFrame_176 : decode cX9_writeFrame 176 = .ok (.iastore, 1) := by decide +kernel
theorem dX9_writeFrame_177 : decode cX9_writeFrame 177 = .ok (.aload_n 0, 1) := by decide +kernel
theorem dX9_writeFrame_178 : decode cX9_writeFrame 178 = .ok (.getfield 40, 3) := by decide +kernel
theorem dX9_writeFrame_181 : decode cX9_writeFrame 181 = .ok (.iload 8, 2) := by decide +kernel
theorem dX9_writeFrame_183 : decode cX9_writeFrame 183 = .ok (.aload_n 0, 1) := by decide +kernel
theorem dX9_writeFrame_184 : decode cX9_writeFrame 184 = .ok (.getfield 161, 3) := by decide +kernel
theorem dX9_writeFrame_187 : decode cX9_writeFrame 187 = .ok (.iastore, 1) := by decide +kernel
theorem dX9_writeFrame_188 : decode cX9_writeFrame 188 = .ok (.aload_n 0, 1) := by decide +kernel
theorem dX9_writeFrame_189 : decode cX9_writeFrame 189 = .ok (.getfield 43, 3) := by decide +kernel
theorem dX9_writeFrame_192 : decode cX9_writeFrame 192 = .ok (.iload 8, 2) := by decide +kernel
theorem dX9_writeFrame_194 : decode cX9_writeFrame 194 = .ok (.lload 6, 2) := by decide +kernel
theorem dX9_writeFrame_196 : decode cX9_writeFrame 196 = .ok (.l2i, 1) := by decide +kernel
theorem dX9_writeFrame_197 : decode cX9_writeFrame 197 = .ok (.iastore, 1) := by decide +kernel
theorem dX9_writeFrame_198 : decode cX9_writeFrame 198 = .ok (.aload_n 0, 1) := by decide +kernel
theorem dX9_writeFrame_199 : decode cX9_writeFrame 199 = .ok (.aload_n 0, 1) := by decide +kernel
theorem dX9_writeFrame_200 : decode cX9_writeFrame 200 = .ok (.iload 5, 2) := by decide +kernel
theorem dX9_writeFrame_202 : decode cX9_writeFrame 202 = .ok (.invokevirtual 207, 3) := by decide +kernel
theorem dX9_writeFrame_205 : decode cX9_writeFrame 205 = .ok (.aload_n 0, 1) := by decide +kernel
theorem dX9_writeFrame_206 : decode cX9_writeFrame 206 = .ok (.getfield 168, 3) := by decide +kernel
theorem dX9_writeFrame_209 : decode cX9_writeFrame 209 = .ok (.isub, 1) := by decide +kernel
theorem dX9_writeFrame_210 : decode cX9_writeFrame 210 = .ok (.invokevirtual 239, 3) := by decide +kernel
theorem dX9_writeFrame_213 : decode cX9_writeFrame 213 = .ok (.iinc 4 1, 3) := by decide +kernel
theorem dX9_writeFrame_216 : decode cX9_writeFrame 216 = .ok (.goto (-104), 3) := by decide +kernel
theorem dX9_writeFrame_219 : decode cX9_writeFrame 219 = .ok (.aload_n 0, 1) := by decide +kernel
theorem dX9_writeFrame_220 : decode cX9_writeFrame 220 = .ok (.getfield 192, 3) := by decide +kernel
theorem dX9_writeFrame_223 : decode cX9_writeFrame 223 = .ok (.ldc2_w 73, 3) := by decide +kernel
theorem dX9_writeFrame_226 : decode cX9_writeFrame 226 = .ok (.lrem, 1) := by decide +kernel
theorem dX9_writeFrame_227 : decode cX9_writeFrame 227 = .ok (.lconst 0, 1) := by decide +kernel
theorem dX9_writeFrame_228 : decode cX9_writeFrame 228 = .ok (.lcmp, 1) := by decide +kernel
theorem dX9_writeFrame_229 : decode cX9_writeFrame 229 = .ok (.ifCond .eq 12, 3) := by decide +kernel
theorem dX9_writeFrame_232 : decode cX9_writeFrame 232 = .ok (.aload_n 0, 1) := by decide +kernel
theorem dX9_writeFrame_233 : decode cX9_writeFrame 233 = .ok (.iconst 1, 1) := by decide +kernel
theorem dX9_writeFrame_234 : decode cX9_writeFrame 234 = .ok (.lconst 0, 1) := by decide +kernel
theorem dX9_writeFrame_235 : decode cX9_writeFrame 235 = .ok (.invokevirtual 217, 3) := by decide +kernel
theorem dX9_writeFrame_238 : decode cX9_writeFrame 238 = .ok (.goto (-19), 3) := by decide +kernel
theorem dX9_writeFrame_241 : decode cX9_writeFrame 241 = .ok (.aload_n 0, 1) := by decide +kernel
theorem dX9_writeFrame_242 : decode cX9_writeFrame 242 = .ok (.bipush 16, 2) := by decide +kernel
theorem dX9_writeFrame_244 : decode cX9_writeFrame 244 = .ok (.aload_n 0, 1) := by decide +kernel
theorem dX9_writeFrame_245 : decode cX9_writeFrame 245 = .ok (.getfield 30, 3) := by decide +kernel
theorem dX9_writeFrame_248 : decode cX9_writeFrame 248 = .ok (.iload_n 3, 1) := by decide +kernel
theorem dX9_writeFrame_249 : decode cX9_writeFrame 249 = .ok (.aload_n 0, 1) := by decide +kernel
theorem dX9_writeFrame_250 : decode cX9_writeFrame 250 = .ok (.getfield 192, 3) := by decide +kernel
theorem dX9_writeFrame_253 : decode cX9_writeFrame 253 = .ok (.ldc2_w 73, 3) := by decide +kernel
theorem dX9_writeFrame_256 : decode cX9_writeFrame 256 = .ok (.ldiv, 1) := by decide +kernel
theorem dX9_writeFrame_257 : decode cX9_writeFrame 257 = .ok (.l2i, 1) := by decide +kernel
theorem dX9_writeFrame_258 : decode cX9_writeFrame 258 = .ok (.iconst 1, 1) := by decide +kernel
theorem dX9_writeFrame_259 : decode cX9_writeFrame 259 = .ok (.invokestatic 232, 3) := by decide +kernel
theorem dX9_writeFrame_262 : decode cX9_writeFrame 262 = .ok (.i2l, 1) := by decide +kernel
theorem dX9_writeFrame_263 : decode cX9_writeFrame 263 = .ok (.invokevirtual 217, 3) := by decide +kernel
theorem dX9_writeFrame_266 : decode cX9_writeFrame 266 = .ok (.return_, 1) := by decide +kernel
theorem dX9_make_0 : decode cX9_make 0 = .ok (.aload_n 0, 1) := by decide +kernel
theorem dX9_make_1 : decode cX9_make 1 = .ok (.aload_n 0, 1) := by decide +kernel
theorem dX9_make_2 : decode cX9_make 2 = .ok (.getfield 89, 3) := by decide +kernel
theorem dX9_make_5 : decode cX9_make 5 = .ok (.aload_n 0, 1) := by decide +kernel
theorem dX9_make_6 : decode cX9_make 6 = .ok (.getfield 7, 3) := by decide +kernel
theorem dX9_make_9 : decode cX9_make 9 = .ok (.irem, 1) := by decide +kernel
theorem dX9_make_10 : decode cX9_make 10 = .ok (.ifCond .ne 7, 3) := by decide +kernel
theorem dX9_make_13 : decode cX9_make 13 = .ok (.iconst 0, 1) := by decide +kernel
theorem dX9_make_14 : decode cX9_make 14 = .ok (.goto 4, 3) := by decide +kernel
theorem dX9_make_17 : decode cX9_make 17 = .ok (.iconst 1, 1) := by decide +kernel
theorem dX9_make_18 : decode cX9_make 18 = .ok (.putfield 70, 3) := by decide +kernel
theorem dX9_make_21 : decode cX9_make 21 = .ok (.aload_n 0, 1) := by decide +kernel
theorem dX9_make_22 : decode cX9_make 22 = .ok (.getfield 70, 3) := by decide +kernel
theorem dX9_make_25 : decode cX9_make 25 = .ok (.ifCond .le 5, 3) := by decide +kernel
theorem dX9_make_28 : decode cX9_make 28 = .ok (.iconst 0, 1) := by decide +kernel
theorem dX9_make_29 : decode cX9_make 29 = .ok (.ireturn, 1) := by decide +kernel
theorem dX9_make_30 : decode cX9_make 30 = .ok (.aload_n 0, 1) := by decide +kernel
theorem dX9_make_31 : decode cX9_make 31 = .ok (.lconst 0, 1) := by decide +kernel
theorem dX9_make_32 : decode cX9_make 32 = .ok (.putfield 192, 3) := by decide +kernel
theorem dX9_make_35 : decode cX9_make 35 = .ok (.aload_n 0, 1) := by decide +kernel
theorem dX9_make_36 : decode cX9_make 36 = .ok (.getfield 89, 3) := by decide +kernel
theorem dX9_make_39 : decode cX9_make 39 = .ok (.aload_n 0, 1) := by decide +kernel
theorem dX9_make_40 : decode cX9_make 40 = .ok (.getfield 7, 3) := by decide +kernel
theorem dX9_make_43 : decode cX9_make 43 = .ok (.idiv, 1) := by decide +kernel
theorem dX9_make_44 : decode cX9_make 44 = .ok (.istore_n 1, 1) := by decide +kernel
theorem dX9_make_45 : decode cX9_make 45 = .ok (.aload_n 0, 1) := by decide +kernel
theorem dX9_make_46 : decode cX9_make 46 = .ok (.bipush 32, 2) := by decide +kernel
theorem dX9_make_48 : decode cX9_make 48 = .ok (.ldc2_w 242, 3) := by decide +kernel
theorem dX9_make_51 : decode cX9_make 51 = .ok (.invokevirtual 217, 3) := by decide +kernel
theorem dX9_make_54 : decode cX9_make 54 = .ok (.aload_n 0, 1) := by decide +kernel
theorem dX9_make_55 : decode cX9_make 55 = .ok (.iconst 1, 1) := by decide +kernel
theorem dX9_make_56 : decode cX9_make 56 = .ok (.lconst 1, 1) := by decide +kernel
theorem dX9_make_57 : decode cX9_make 57 = .ok (.invokevirtual 217, 3) := by decide +kernel
theorem dX9_make_60 : decode cX9_make 60 = .ok (.aload_n 0, 1) := by decide +kernel
theorem dX9_make_61 : decode cX9_make 61 = .ok (.bipush 7, 2) := by decide +kernel
theorem dX9_make_63 : decode cX9_make 63 = .ok (.lconst 0, 1) := by decide +kernel
theorem dX9_make_64 : decode cX9_make 64 = .ok (.invokevirtual 217, 3) := by decide +kernel
theorem dX9_make_67 : decode cX9_make 67 = .ok (.aload_n 0, 1) := by decide +kernel
theorem dX9_make_68 : decode cX9_make 68 = .ok (.bipush 24, 2) := by decide +kernel
theorem dX9_make_70 : decode cX9_make 70 = .ok (.ldc2_w 244, 3) := by decide +kernel
theorem dX9_make_73 : decode cX9_make 73 = .ok (.invokevirtual 217, 3) := by decide +kernel
theorem dX9_make_76 : decode cX9_make 76 = .ok (.aload_n 0, 1) := by decide +kernel
theorem dX9_make_77 : decode cX9_make 77 = .ok (.bipush 16, 2) := by decide +kernel
theorem dX9_make_79 : decode cX9_make 79 = .ok (.aload_n 0, 1) := by decide +kernel
theorem dX9_make_80 : decode cX9_make 80 = .ok (.getfield 16, 3) := by decide +kernel
theorem dX9_make_83 : decode cX9_make 83 = .ok (.i2l, 1) := by decide +kernel
theorem dX9_make_84 : decode cX9_make 84 = .ok (.invokevirtual 217, 3) := by decide +kernel
theorem dX9_make_87 : decode cX9_make 87 = .ok (.aload_n 0, 1) := by decide +kernel
theorem dX9_make_88 : decode cX9_make 88 = .ok (.bipush 16, 2) := by decide +kernel
theorem dX9_make_90 : decode cX9_make 90 = .ok (.aload_n 0, 1) := by decide +kernel
theorem dX9_make_91 : decode cX9_make 91 = .ok (.getfield 16, 3) := by decide +kernel
theorem dX9_make_94 : decode cX9_make 94 = .ok (.i2l, 1) := by decide +kernel
theorem dX9_make_95 : decode cX9_make 95 = .ok (.invokevirtual 217, 3) := by decide +kernel
theorem dX9_make_98 : decode cX9_make 98 = .ok (.aload_n 0, 1) := by decide +kernel
theorem dX9_make_99 : decode cX9_make 99 = .ok (.bipush 48, 2) := by decide +kernel
theorem dX9_make_101 : decode cX9_make 101 = .ok (.lconst 0, 1) := by decide +kernel
theorem dX9_make_102 : decode cX9_make 102 = .ok (.invokevirtual 217, 3) := by decide +kernel
theorem dX9_make_105 : decode cX9_make 105 = .ok (.aload_n 0, 1) := by decide +kernel
theorem dX9_make_106 : decode cX9_make 106 = .ok (.bipush 20, 2) := by decide +kernel
theorem dX9_make_108 : decode cX9_make 108 = .ok (.aload_n 0, 1) := by decide +kernel
theorem dX9_make_109 : decode cX9_make 109 = .ok (.getfield 20, 3) := by decide +kernel
theorem dX9_make_112 : decode cX9_make 112 = .ok (.i2l, 1) := by decide +kernel
theorem dX9_make_113 : decode cX9_make 113 = .ok (.invokevirtual 217, 3) := by decide +kernel
theorem dX9_make_116 : decode cX9_make 116 = .ok (.aload_n 0, 1) := by decide +kernel
theorem dX9_make_117 : decode cX9_make 117 = .ok (.iconst 3, 1) := by decide +kernel
theorem dX9_make_118 : decode cX9_make 118 = .ok (.aload_n 0, 1) := by decide +kernel
theorem dX9_make_119 : decode cX9_make 119 = .ok (.getfield 7, 3) := by decide +kernel
theorem dX9_make_122 : decode cX9_make 122 = .ok (.iconst 1, 1) := by decide +kernel
theorem dX9_make_123 : decode cX9_make 123 = .ok (.isub, 1) := by decide +kernel
theorem dX9_make_124 : decode cX9_make 124 = .ok (.i2l, 1) := by decide +kernel
theorem dX9_make_125 : decode cX9_make 125 = .ok (.invokevirtual 217, 3) := by decide +kernel
theorem dX9_make_128 : decode cX9_make 128 = .ok (.aload_n 0, 1) := by decide +kernel
theorem dX9_make_129 : decode cX9_make 129 = .ok (.iconst 5, 1) := by decide +kernel
theorem dX9_make_130 : decode cX9_make 130 = .ok (.aload_n 0, 1) := by decide +kernel
theorem dX9_make_131 : decode cX9_make 131 = .ok (.getfield 13, 3) := by decide +kernel
theorem dX9_make_134 : decode cX9_make 134 = .ok (.iconst 1, 1) := by decide +kernel
theorem dX9_make_135 : decode cX9_make 135 = .ok (.isub, 1) := by decide +kernel
theorem dX9_make_136 : decode cX9_make 136 = .ok (.i2l, 1) := by decide +kernel
theorem dX9_make_137 : decode cX9_make 137 = .ok (.invokevirtual 217, 3) := by decide +kernel
theorem dX9_make_140 : decode cX9_make 140 = .ok (.aload_n 0, 1) := by decide +kernel
theorem dX9_make_141 : decode cX9_make 141 = .ok (.bipush 36, 2) := by decide +kernel
theorem dX9_make_143 : decode cX9_make 143 = .ok (.iload_n 1, 1) := by decide +kernel
theorem dX9_make_144 : decode cX9_make 144 = .ok (.i2l, 1) := by decide +kernel
theorem dX9_make_145 : decode cX9_make 145 = .ok (.invokevirtual 217, 3) := by decide +kernel
theorem dX9_make_148 : decode cX9_make 148 = .ok (.aload_n 0, 1) := by decide +kernel
theorem dX9_make_149 : decode cX9_make 149 = .ok (.bipush 64, 2) := by decide +kernel
theorem dX9_make_151 : decode cX9_make 151 = .ok (.lconst 0, 1) := by decide +kernel
theorem dX9_make_152 : decode cX9_make 152 = .ok (.invokevirtual 217, 3) := by decide +kernel
theorem dX9_make_155 : decode cX9_make 155 = .ok (.aload_n 0, 1) := by decide +kernel
theorem dX9_make_156 : decode cX9_make 156 = .ok (.bipush 64, 2) := by decide +kernel
theorem dX9_make_158 : decode cX9_make 158 = .ok (.lconst 0, 1) := by decide +kernel
theorem dX9_make_159 : decode cX9_make 159 = .ok (.invokevirtual 217, 3) := by decide +kernel
theorem dX9_make_162 : decode cX9_make 162 = .ok (.aload_n 0, 1) := by decide +kernel
theorem dX9_make_163 : decode cX9_make 163 = .ok (.iconst 0, 1) := by decide +kernel
theorem dX9_make_164 : decode cX9_make 164 = .ok (.putfield 246, 3) := by decide +kernel
theorem dX9_make_167 : decode cX9_make 167 = .ok (.aload_n 0, 1) := by decide +kernel
theorem dX9_make_168 : decode cX9_make 168 = .ok (.aload_n 0, 1) := by decide +kernel
theorem dX9_make_169 : decode cX9_make 169 = .ok (.getfield 7, 3) := by decide +kernel
theorem dX9_make_172 : decode cX9_make 172 = .ok (.putfield 249, 3) := by decide +kernel
theorem dX9_make_175 : decode cX9_make 175 = .ok (.iconst 0, 1) := by decide +kernel
theorem dX9_make_176 : decode cX9_make 176 = .ok (.istore_n 2, 1) := by decide +kernel
theorem dX9_make_177 : decode cX9_make 177 = .ok (.iload_n 2, 1) := by decide +kernel
theorem dX9_make_178 : decode cX9_make 178 = .ok (.iload_n 1, 1) := by decide +kernel
theorem dX9_make_179 : decode cX9_make 179 = .ok (.if_icmp .ge 51, 3) := by decide +kernel
theorem dX9_make_182 : decode cX9_make 182 = .ok (.aload_n 0, 1) := by decide +kernel
theorem dX9_make_183 : decode cX9_make 183 = .ok (.aload_n 0, 1) := by decide +kernel
theorem dX9_make_184 : decode cX9_make 184 = .ok (.getfield 246, 3) := by decide +kernel
theorem dX9_make_187 : decode cX9_make 187 = .ok (.iload_n 1, 1) := by decide +kernel
theorem dX9_make_188 : decode cX9_make 188 = .ok (.iload_n 2, 1) := by decide +kernel
theorem dX9_make_189 : decode cX9_make 189 = .ok (.isub, 1) := by decide +kernel
theorem dX9_make_190 : decode cX9_make 190 = .ok (.aload_n 0, 1) := by decide +kernel
theorem dX9_make_191 : decode cX9_make 191 = .ok (.getfield 16, 3) := by decide +kernel
theorem dX9_make_194 : decode cX9_make 194 = .ok (.if_icmp .ge 9, 3) := by decide +kernel
theorem dX9_make_197 : decode cX9_make 197 = .ok (.iload_n 1, 1) := by decide +kernel
theorem dX9_make_198 : decode cX9_make 198 = .ok (.iload_n 2, 1) := by decide +kernel
theorem dX9_make_199 : decode cX9_make 199 = .ok (.isub, 1) := by decide +kernel
theorem dX9_make_200 : decode cX9_make 200 = .ok (.goto 7, 3) := by decide +kernel
theorem dX9_make_203 : decode cX9_make 203 = .ok (.aload_n 0, 1) := by decide +kernel
theorem dX9_make_204 : decode cX9_make 204 = .ok (.getfield 16, 3) := by decide +kernel
theorem dX9_make_207 : decode cX9_make 207 = .ok (.invokevirtual 252, 3) := by decide +kernel
theorem dX9_make_210 : decode cX9_make 210 = .ok (.aload_n 0, 1) := by decide +kernel
theorem dX9_make_211 : decode cX9_make 211 = .ok (.dup, 1) := by decide +kernel
theorem dX9_make_212 : decode cX9_make 212 = .ok (.getfield 246, 3) := by decide +kernel
theorem dX9_make_215 : decode cX9_make 215 = .ok (.iconst 1, 1) := by decide +kernel
theorem dX9_make_216 : decode cX9_make 216 = .ok (.iadd, 1) := by decide +kernel
theorem dX9_make_217 : decode cX9_make 217 = .ok (.putfield 246, 3) := by decide +kernel
theorem dX9_make_220 : decode cX9_make 220 = .ok (.iload_n 2, 1) := by decide +kernel
theorem dX9_make_221 : decode cX9_make 221 = .ok (.aload_n 0, 1) := by decide +kernel
theorem dX9_make_222 : decode cX9_make 222 = .ok (.getfield 16, 3) := by decide +kernel
theorem dX9_make_225 : decode cX9_make 225 = .ok (.iadd, 1) := by decide +kernel
theorem dX9_make_226 : decode cX9_make 226 = .ok (.istore_n 2, 1) := by decide +kernel
theorem dX9_make_227 : decode cX9_make 227 = .ok (.goto (-50), 3) := by decide +kernel
theorem dX9_make_230 : decode cX9_make 230 = .ok (.aload_n 0, 1) := by decide +kernel
theorem dX9_make_231 : decode cX9_make 231 = .ok (.aload_n 0, 1) := by decide +kernel
theorem dX9_make_232 : decode cX9_make 232 = .ok (.getfield 192, 3) := by decide +kernel
theorem dX9_make_235 : decode cX9_make 235 = .ok (.ldc2_w 73, 3) := by decide +kernel
theorem dX9_make_238 : decode cX9_make 238 = .ok (.ldiv, 1) := by decide +kernel
theorem dX9_make_239 : decode cX9_make 239 = .ok (.l2i, 1) := by decide +kernel
theorem dX9_make_240 : decode cX9_make 240 = .ok (.putfield 256, 3) := by decide +kernel
theorem dX9_make_243 : decode cX9_make 243 = .ok (.aload_n 0, 1) := by decide +kernel
theorem dX9_make_244 : decode cX9_make 244 = .ok (.getfield 256, 3) := by decide +kernel
theorem dX9_make_247 : decode cX9_make 247 = .ok (.ireturn, 1) := by decide +kernel
theorem dX9_octet_0 : decode cX9_octet 0 = .ok (.aload_n 0, 1) := by decide +kernel
theorem dX9_octet_1 : decode cX9_octet 1 = .ok (.iconst 0, 1) := by decide +kernel
theorem dX9_octet_2 : decode cX9_octet 2 = .ok (.putfield 70, 3) := by decide +kernel
theorem dX9_octet_5 : decode cX9_octet 5 = .ok (.iload_n 1, 1) := by decide +kernel
theorem dX9_octet_6 : decode cX9_octet 6 = .ok (.i2l, 1) := by decide +kernel
theorem dX9_octet_7 : decode cX9_octet 7 = .ok (.lconst 0, 1) := by decide +kernel
theorem dX9_octet_8 : decode cX9_octet 8 = .ok (.aload_n 0, 1) := by decide +kernel
theorem dX9_octet_9 : decode cX9_octet 9 = .ok (.getfield 256, 3) := by decide +kernel
theorem dX9_octet_12 : decode cX9_octet 12 = .ok (.iconst 1, 1) := by decide +kernel
theorem dX9_octet_13 : decode cX9_octet 13 = .ok (.isub, 1) := by decide +kernel
theorem dX9_octet_14 : decode cX9_octet 14 = .ok (.i2l, 1) := by decide +kernel
theorem dX9_octet_15 : decode cX9_octet 15 = .ok (.invokestatic 75, 3) := by decide +kernel
theorem dX9_octet_18 : decode cX9_octet 18 = .ok (.ifCond .eq 14, 3) := by decide +kernel
theorem dX9_octet_21 : decode cX9_octet 21 = .ok (.aload_n 0, 1) := by decide +kernel
theorem dX9_octet_22 : decode cX9_octet 22 = .ok (.getfield 30, 3) := by decide +kernel
theorem dX9_octet_25 : decode cX9_octet 25 = .ok (.iload_n 1, 1) := by decide +kernel
theorem dX9_octet_26 : decode cX9_octet 26 = .ok (.invokestatic 198, 3) := by decide +kernel
theorem dX9_octet_29 : decode cX9_octet 29 = .ok (.goto 4, 3) := by decide +kernel
theorem dX9_octet_32 : decode cX9_octet 32 = .ok (.iconst (-1), 1) := by decide +kernel
theorem dX9_octet_33 : decode cX9_octet 33 = .ok (.ireturn, 1) := by decide +kernel
theorem dX9_way_0 : decode cX9_way 0 = .ok (.aload_n 0, 1) := by decide +kernel
theorem dX9_way_1 : decode cX9_way 1 = .ok (.iload_n 1, 1) := by decide +kernel
theorem dX9_way_2 : decode cX9_way 2 = .ok (.i2l, 1) := by decide +kernel
theorem dX9_way_3 : decode cX9_way 3 = .ok (.lconst 0, 1) := by decide +kernel
theorem dX9_way_4 : decode cX9_way 4 = .ok (.aload_n 0, 1) := by decide +kernel
theorem dX9_way_5 : decode cX9_way 5 = .ok (.getfield 246, 3) := by decide +kernel
theorem dX9_way_8 : decode cX9_way 8 = .ok (.iconst 1, 1) := by decide +kernel
theorem dX9_way_9 : decode cX9_way 9 = .ok (.isub, 1) := by decide +kernel
theorem dX9_way_10 : decode cX9_way 10 = .ok (.i2l, 1) := by decide +kernel
theorem dX9_way_11 : decode cX9_way 11 = .ok (.invokestatic 75, 3) := by decide +kernel
theorem dX9_way_14 : decode cX9_way 14 = .ok (.ifCond .eq 35, 3) := by decide +kernel
theorem dX9_way_17 : decode cX9_way 17 = .ok (.iload_n 2, 1) := by decide +kernel
theorem dX9_way_18 : decode cX9_way 18 = .ok (.i2l, 1) := by decide +kernel
theorem dX9_way_19 : decode cX9_way 19 = .ok (.lconst 0, 1) := by decide +kernel
theorem dX9_way_20 : decode cX9_way 20 = .ok (.aload_n 0, 1) := by decide +kernel
theorem dX9_way_21 : decode cX9_way 21 = .ok (.getfield 249, 3) := by decide +kernel
theorem dX9_way_24 : decode cX9_way 24 = .ok (.iconst 1, 1) := by decide +kernel
theorem dX9_way_25 : decode cX9_way 25 = .ok (.isub, 1) := by decide +kernel
theorem dX9_way_26 : decode cX9_way 26 = .ok (.i2l, 1) := by decide +kernel
theorem dX9_way_27 : decode cX9_way 27 = .ok (.invokestatic 75, 3) := by decide +kernel
theorem dX9_way_30 : decode cX9_way 30 = .ok (.ifCond .eq 19, 3) := by decide +kernel
theorem dX9_way_33 : decode cX9_way 33 = .ok (.iload_n 3, 1) := by decide +kernel
theorem dX9_way_34 : decode cX9_way 34 = .ok (.i2l, 1) := by decide +kernel
theorem dX9_way_35 : decode cX9_way 35 = .ok (.lconst 0, 1) := by decide +kernel
theorem dX9_way_36 : decode cX9_way 36 = .ok (.ldc2_w 79, 3) := by decide +kernel
theorem dX9_way_39 : decode cX9_way 39 = .ok (.invokestatic 75, 3) := by decide +kernel
theorem dX9_way_42 : decode cX9_way 42 = .ok (.ifCond .eq 7, 3) := by decide +kernel
theorem dX9_way_45 : decode cX9_way 45 = .ok (.iconst 0, 1) := by decide +kernel
theorem dX9_way_46 : decode cX9_way 46 = .ok (.goto 4, 3) := by decide +kernel
theorem dX9_way_49 : decode cX9_way 49 = .ok (.iconst 1, 1) := by decide +kernel
theorem dX9_way_50 : decode cX9_way 50 = .ok (.putfield 70, 3) := by decide +kernel
theorem dX9_way_53 : decode cX9_way 53 = .ok (.aload_n 0, 1) := by decide +kernel
theorem dX9_way_54 : decode cX9_way 54 = .ok (.getfield 70, 3) := by decide +kernel
theorem dX9_way_57 : decode cX9_way 57 = .ok (.ifCond .le 5, 3) := by decide +kernel
theorem dX9_way_60 : decode cX9_way 60 = .ok (.iconst 0, 1) := by decide +kernel
theorem dX9_way_61 : decode cX9_way 61 = .ok (.ireturn, 1) := by decide +kernel
theorem dX9_way_62 : decode cX9_way 62 = .ok (.iload_n 1, 1) := by decide +kernel
theorem dX9_way_63 : decode cX9_way 63 = .ok (.aload_n 0, 1) := by decide +kernel
theorem dX9_way_64 : decode cX9_way 64 = .ok (.getfield 249, 3) := by decide +kernel
theorem dX9_way_67 : decode cX9_way 67 = .ok (.imul, 1) := by decide +kernel
theorem dX9_way_68 : decode cX9_way 68 = .ok (.iload_n 2, 1) := by decide +kernel
theorem dX9_way_69 : decode cX9_way 69 = .ok (.iadd, 1) := by decide +kernel
theorem dX9_way_70 : decode cX9_way 70 = .ok (.istore 4, 2) := by decide +kernel
theorem dX9_way_72 : decode cX9_way 72 = .ok (.iload_n 3, 1) := by decide +kernel
theorem dX9_way_73 : decode cX9_way 73 = .ok (.ifCond .ne 13, 3) := by decide +kernel
theorem dX9_way_76 : decode cX9_way 76 = .ok (.aload_n 0, 1) := by decide +kernel
theorem dX9_way_77 : decode cX9_way 77 = .ok (.getfield 34, 3) := by decide +kernel
theorem dX9_way_80 : decode cX9_way 80 = .ok (.iload 4, 2) := by decide +kernel
theorem dX9_way_82 : decode cX9_way 82 = .ok (.iaload, 1) := by decide +kernel
theorem dX9_way_83 : decode cX9_way 83 = .ok (.goto 54, 3) := by decide +kernel
theorem dX9_way_86 : decode cX9_way 86 = .ok (.iload_n 3, 1) := by decide +kernel
theorem dX9_way_87 : decode cX9_way 87 = .ok (.iconst 1, 1) := by decide +kernel
theorem dX9_way_88 : decode cX9_way 88 = .ok (.if_icmp .ne 13, 3) := by decide +kernel
theorem dX9_way_91 : decode cX9_way 91 = .ok (.aload_n 0, 1) := by decide +kernel
theorem dX9_way_92 : decode cX9_way 92 = .ok (.getfield 37, 3) := by decide +kernel
theorem dX9_way_95 : decode cX9_way 95 = .ok (.iload 4, 2) := by decide +kernel
theorem dX9_way_97 : decode cX9_way 97 = .ok (.iaload, 1) := by decide +kernel
theorem dX9_way_98 : decode cX9_way 98 = .ok (.goto 39, 3) := by decide +kernel
theorem dX9_way_101 : decode cX9_way 101 = .ok (.iload_n 3, 1) := by decide +kernel
theorem dX9_way_102 : decode cX9_way 102 = .ok (.iconst 2, 1) := by decide +kernel
theorem dX9_way_103 : decode cX9_way 103 = .ok (.if_icmp .ne 13, 3) := by decide +kernel
theorem dX9_way_106 : decode cX9_way 106 = .ok (.aload_n 0, 1) := by decide +kernel
theorem dX9_way_107 : decode cX9_way 107 = .ok (.getfield 40, 3) := by decide +kernel
theorem dX9_way_110 : decode cX9_way 110 = .ok (.iload 4, 2) := by decide +kernel
theorem dX9_way_112 : decode cX9_way 112 = .ok (.iaload, 1) := by decide +kernel
theorem dX9_way_113 : decode cX9_way 113 = .ok (.goto 24, 3) := by decide +kernel
theorem dX9_way_116 : decode cX9_way 116 = .ok (.iload_n 3, 1) := by decide +kernel
theorem dX9_way_117 : decode cX9_way 117 = .ok (.iconst 3, 1) := by decide +kernel
theorem dX9_way_118 : decode cX9_way 118 = .ok (.if_icmp .ne 13, 3) := by decide +kernel
theorem dX9_way_121 : decode cX9_way 121 = .ok (.aload_n 0, 1) := by decide +kernel
theorem dX9_way_122 : decode cX9_way 122 = .ok (.getfield 43, 3) := by decide +kernel
theorem dX9_way_125 : decode cX9_way 125 = .ok (.iload 4, 2) := by decide +kernel
theorem dX9_way_127 : decode cX9_way 127 = .ok (.iaload, 1) := by decide +kernel
theorem dX9_way_128 : decode cX9_way 128 = .ok (.goto 9, 3) := by decide +kernel
theorem dX9_way_131 : decode cX9_way 131 = .ok (.aload_n 0, 1) := by decide +kernel
theorem dX9_way_132 : decode cX9_way 132 = .ok (.getfield 46, 3) := by decide +kernel
theorem dX9_way_135 : decode cX9_way 135 = .ok (.iload_n 1, 1) := by decide +kernel
theorem dX9_way_136 : decode cX9_way 136 = .ok (.iaload, 1) := by decide +kernel
theorem dX9_way_137 : decode cX9_way 137 = .ok (.ireturn, 1) := by decide +kernel
theorem dX9_feed_0 : decode cX9_feed 0 = .ok (.aload_n 0, 1) := by decide +kernel
theorem dX9_feed_1 : decode cX9_feed 1 = .ok (.iconst 0, 1) := by decide +kernel
theorem dX9_feed_2 : decode cX9_feed 2 = .ok (.putfield 70, 3) := by decide +kernel
theorem dX9_feed_5 : decode cX9_feed 5 = .ok (.iload_n 3, 1) := by decide +kernel
theorem dX9_feed_6 : decode cX9_feed 6 = .ok (.i2l, 1) := by decide +kernel
theorem dX9_feed_7 : decode cX9_feed 7 = .ok (.lconst 1, 1) := by decide +kernel
theorem dX9_feed_8 : decode cX9_feed 8 = .ok (.ldc2_w 73, 3) := by decide +kernel
theorem dX9_feed_11 : decode cX9_feed 11 = .ok (.invokestatic 75, 3) := by decide +kernel
theorem dX9_feed_14 : decode cX9_feed 14 = .ok (.ifCond .eq 15, 3) := by decide +kernel
theorem dX9_feed_17 : decode cX9_feed 17 = .ok (.aload_n 0, 1) := by decide +kernel
theorem dX9_feed_18 : decode cX9_feed 18 = .ok (.getfield 259, 3) := by decide +kernel
theorem dX9_feed_21 : decode cX9_feed 21 = .ok (.iload_n 3, 1) := by decide +kernel
theorem dX9_feed_22 : decode cX9_feed 22 = .ok (.iadd, 1) := by decide +kernel
theorem dX9_feed_23 : decode cX9_feed 23 = .ok (.sipush 20000, 3) := by decide +kernel
theorem dX9_feed_26 : decode cX9_feed 26 = .ok (.if_icmp .le 5, 3) := by decide +kernel
theorem dX9_feed_29 : decode cX9_feed 29 = .ok (.iconst 0, 1) := by decide +kernel
theorem dX9_feed_30 : decode cX9_feed 30 = .ok (.ireturn, 1) := by decide +kernel
theorem dX9_feed_31 : decode cX9_feed 31 = .ok (.iconst 0, 1) := by decide +kernel
theorem dX9_feed_32 : decode cX9_feed 32 = .ok (.istore 4, 2) := by decide +kernel
theorem dX9_feed_34 : decode cX9_feed 34 = .ok (.iload 4, 2) := by decide +kernel
theorem dX9_feed_36 : decode cX9_feed 36 = .ok (.iload_n 3, 1) := by decide +kernel
theorem dX9_feed_37 : decode cX9_feed 37 = .ok (.if_icmp .ge 87, 3) := by decide +kernel
theorem dX9_feed_40 : decode cX9_feed 40 = .ok (.bipush 56, 2) := by decide +kernel
theorem dX9_feed_42 : decode cX9_feed 42 = .ok (.bipush 8, 2) := by decide +kernel
theorem dX9_feed_44 : decode cX9_feed 44 = .ok (.aload_n 0, 1) := by decide +kernel
theorem dX9_feed_45 : decode cX9_feed 45 = .ok (.getfield 259, 3) := by decide +kernel
theorem dX9_feed_48 : decode cX9_feed 48 = .ok (.bipush 8, 2) := by decide +kernel
theorem dX9_feed_50 : decode cX9_feed 50 = .ok (.irem, 1) := by decide +kernel
theorem dX9_feed_51 : decode cX9_feed 51 = .ok (.imul, 1) := by decide +kernel
theorem dX9_feed_52 : decode cX9_feed 52 = .ok (.isub, 1) := by decide +kernel
theorem dX9_feed_53 : decode cX9_feed 53 = .ok (.istore 5, 2) := by decide +kernel
theorem dX9_feed_55 : decode cX9_feed 55 = .ok (.aload_n 0, 1) := by decide +kernel
theorem dX9_feed_56 : decode cX9_feed 56 = .ok (.getfield 49, 3) := by decide +kernel
theorem dX9_feed_59 : decode cX9_feed 59 = .ok (.aload_n 0, 1) := by decide +kernel
theorem dX9_feed_60 : decode cX9_feed 60 = .ok (.getfield 259, 3) := by decide +kernel
theorem dX9_feed_63 : decode cX9_feed 63 = .ok (.bipush 8, 2) := by decide +kernel
theorem dX9_feed_65 : decode cX9_feed 65 = .ok (.idiv, 1) := by decide +kernel
theorem dX9_feed_66 : decode cX9_feed 66 = .ok (.aload_n 0, 1) := by decide +kernel
theorem dX9_feed_67 : decode cX9_feed 67 = .ok (.getfield 49, 3) := by decide +kernel
theorem dX9_feed_70 : decode cX9_feed 70 = .ok (.aload_n 0, 1) := by decide +kernel
theorem dX9_feed_71 : decode cX9_feed 71 = .ok (.getfield 259, 3) := by decide +kernel
theorem dX9_feed_74 : decode cX9_feed 74 = .ok (.bipush 8, 2) := by decide +kernel
theorem dX9_feed_76 : decode cX9_feed 76 = .ok (.idiv, 1) := by decide +kernel
theorem dX9_feed_77 : decode cX9_feed 77 = .ok (.laload, 1) := by decide +kernel
theorem dX9_feed_78 : decode cX9_feed 78 = .ok (.ldc2_w 262, 3) := by decide +kernel
theorem dX9_feed_81 : decode cX9_feed 81 = .ok (.iload 5, 2) := by decide +kernel
theorem dX9_feed_83 : decode cX9_feed 83 = .ok (.lshl, 1) := by decide +kernel
theorem dX9_feed_84 : decode cX9_feed 84 = .ok (.ldc2_w 171, 3) := by decide +kernel
theorem dX9_feed_87 : decode cX9_feed 87 = .ok (.lxor, 1) := by decide +kernel
theorem dX9_feed_88 : decode cX9_feed 88 = .ok (.land, 1) := by decide +kernel
theorem dX9_feed_89 : decode cX9_feed 89 = .ok (.lload_n 1, 1) := by decide +kernel
theorem dX9_feed_90 : decode cX9_feed 90 = .ok (.bipush 56, 2) := by decide +kernel
theorem dX9_feed_92 : decode cX9_feed 92 = .ok (.bipush 8, 2) := by decide +kernel
theorem dX9_feed_94 : decode cX9_feed 94 = .ok (.iload 4, 2) := by decide +kernel
theorem dX9_feed_96 : decode cX9_feed 96 = .ok (.imul, 1) := by decide +kernel
theorem dX9_feed_97 : decode cX9_feed 97 = .ok (.isub, 1) := by decide +kernel
theorem dX9_feed_98 : decode cX9_feed 98 = .ok (.lshr, 1) := by decide +kernel
theorem dX9_feed_99 : decode cX9_feed 99 = .ok (.ldc2_w 262, 3) := by decide +kernel
theorem dX9_feed_102 : decode cX9_feed 102 = .ok (.land, 1) := by decide +kernel
theorem dX9_feed_103 : decode cX9_feed 103 = .ok (.iload 5, 2) := by decide +kernel
theorem dX9_feed_105 : decode cX9_feed 105 = .ok (.lshl, 1) := by decide +kernel
theorem dX9_feed_106 : decode cX9_feed 106 = .ok (.lor, 1) := by decide +kernel
theorem dX9_feed_107 : decode cX9_feed 107 = .ok (.lastore, 1) := by decide +kernel
theorem dX9_feed_108 : decode cX9_feed 108 = .ok (.aload_n 0, 1) := by decide +kernel
theorem dX9_feed_109 : decode cX9_feed 109 = .ok (.dup, 1) := by decide +kernel
theorem dX9_feed_110 : decode cX9_feed 110 = .ok (.getfield 259, 3) := by decide +kernel
theorem dX9_feed_113 : decode cX9_feed 113 = .ok (.iconst 1, 1) := by decide +kernel
theorem dX9_feed_114 : decode cX9_feed 114 = .ok (.iadd, 1) := by decide +kernel
theorem dX9_feed_115 : decode cX9_feed 115 = .ok (.putfield 259, 3) := by decide +kernel
theorem dX9_feed_118 : decode cX9_feed 118 = .ok (.iinc 4 1, 3) := by decide +kernel
theorem dX9_feed_121 : decode cX9_feed 121 = .ok (.goto (-87), 3) := by decide +kernel
theorem dX9_feed_124 : decode cX9_feed 124 = .ok (.iconst 1, 1) := by decide +kernel
theorem dX9_feed_125 : decode cX9_feed 125 = .ok (.ireturn, 1) := by decide +kernel
theorem dX9_again_0 : decode cX9_again 0 = .ok (.aload_n 0, 1) := by decide +kernel
theorem dX9_again_1 : decode cX9_again 1 = .ok (.iconst 0, 1) := by decide +kernel
theorem dX9_again_2 : decode cX9_again 2 = .ok (.putfield 70, 3) := by decide +kernel
theorem dX9_again_5 : decode cX9_again 5 = .ok (.iconst 0, 1) := by decide +kernel
theorem dX9_again_6 : decode cX9_again 6 = .ok (.istore_n 1, 1) := by decide +kernel
theorem dX9_again_7 : decode cX9_again 7 = .ok (.iload_n 1, 1) := by decide +kernel
theorem dX9_again_8 : decode cX9_again 8 = .ok (.sipush 2500, 3) := by decide +kernel
theorem dX9_again_11 : decode cX9_again 11 = .ok (.if_icmp .ge 21, 3) := by decide +kernel
theorem dX9_again_14 : decode cX9_again 14 = .ok (.aload_n 0, 1) := by decide +kernel
theorem dX9_again_15 : decode cX9_again 15 = .ok (.getfield 49, 3) := by decide +kernel
theorem dX9_again_18 : decode cX9_again 18 = .ok (.iload_n 1, 1) := by decide +kernel
theorem dX9_again_19 : decode cX9_again 19 = .ok (.aload_n 0, 1) := by decide +kernel
theorem dX9_again_20 : decode cX9_again 20 = .ok (.getfield 30, 3) := by decide +kernel
theorem dX9_again_23 : decode cX9_again 23 = .ok (.iload_n 1, 1) := by decide +kernel
theorem dX9_again_24 : decode cX9_again 24 = .ok (.laload, 1) := by decide +kernel
theorem dX9_again_25 : decode cX9_again 25 = .ok (.lastore, 1) := by decide +kernel
theorem dX9_again_26 : decode cX9_again 26 = .ok (.iinc 1 1, 3) := by decide +kernel
theorem dX9_again_29 : decode cX9_again 29 = .ok (.goto (-22), 3) := by decide +kernel
theorem dX9_again_32 : decode cX9_again 32 = .ok (.aload_n 0, 1) := by decide +kernel
theorem dX9_again_33 : decode cX9_again 33 = .ok (.aload_n 0, 1) := by decide +kernel
theorem dX9_again_34 : decode cX9_again 34 = .ok (.getfield 256, 3) := by decide +kernel
theorem dX9_again_37 : decode cX9_again 37 = .ok (.putfield 259, 3) := by decide +kernel
theorem dX9_again_40 : decode cX9_again 40 = .ok (.aload_n 0, 1) := by decide +kernel
theorem dX9_again_41 : decode cX9_again 41 = .ok (.getfield 259, 3) := by decide +kernel
theorem dX9_again_44 : decode cX9_again 44 = .ok (.ireturn, 1) := by decide +kernel
theorem dX9_wrong_0 : decode cX9_wrong 0 = .ok (.aload_n 0, 1) := by decide +kernel
theorem dX9_wrong_1 : decode cX9_wrong 1 = .ok (.getfield 264, 3) := by decide +kernel
theorem dX9_wrong_4 : decode cX9_wrong 4 = .ok (.ifCond .ne 14, 3) := by decide +kernel
theorem dX9_wrong_7 : decode cX9_wrong 7 = .ok (.aload_n 0, 1) := by decide +kernel
theorem dX9_wrong_8 : decode cX9_wrong 8 = .ok (.iload_n 1, 1) := by decide +kernel
theorem dX9_wrong_9 : decode cX9_wrong 9 = .ok (.putfield 264, 3) := by decide +kernel
theorem dX9_wrong_12 : decode cX9_wrong 12 = .ok (.aload_n 0, 1) := by decide +kernel
theorem dX9_wrong_13 : decode cX9_wrong 13 = .ok (.lload_n 2, 1) := by decide +kernel
theorem dX9_wrong_14 : decode cX9_wrong 14 = .ok (.l2i, 1) := by decide +kernel
theorem dX9_wrong_15 : decode cX9_wrong 15 = .ok (.putfield 52, 3) := by decide +kernel
theorem dX9_wrong_18 : decode cX9_wrong 18 = .ok (.iconst 0, 1) := by decide +kernel
theorem dX9_wrong_19 : decode cX9_wrong 19 = .ok (.ireturn, 1) := by decide +kernel
theorem dX9_take_0 : decode cX9_take 0 = .ok (.aload_n 0, 1) := by decide +kernel
theorem dX9_take_1 : decode cX9_take 1 = .ok (.getfield 264, 3) := by decide +kernel
theorem dX9_take_4 : decode cX9_take 4 = .ok (.ifCond .le 5, 3) := by decide +kernel
theorem dX9_take_7 : decode cX9_take 7 = .ok (.lconst 0, 1) := by decide +kernel
theorem dX9_take_8 : decode cX9_take 8 = .ok (.lreturn, 1) := by decide +kernel
theorem dX9_take_9 : decode cX9_take 9 = .ok (.aload_n 0, 1) := by decide +kernel
theorem dX9_take_10 : decode cX9_take 10 = .ok (.getfield 267, 3) := by decide +kernel
theorem dX9_take_13 : decode cX9_take 13 = .ok (.iload_n 1, 1) := by decide +kernel
theorem dX9_take_14 : decode cX9_take 14 = .ok (.i2l, 1) := by decide +kernel
theorem dX9_take_15 : decode cX9_take 15 = .ok (.ladd, 1) := by decide +kernel
theorem dX9_take_16 : decode cX9_take 16 = .ok (.aload_n 0, 1) := by decide +kernel
theorem dX9_take_17 : decode cX9_take 17 = .ok (.getfield 270, 3) := by decide +kernel
theorem dX9_take_20 : decode cX9_take 20 = .ok (.lcmp, 1) := by decide +kernel
theorem dX9_take_21 : decode cX9_take 21 = .ok (.ifCond .le 15, 3) := by decide +kernel
theorem dX9_take_24 : decode cX9_take 24 = .ok (.aload_n 0, 1) := by decide +kernel
theorem dX9_take_25 : decode cX9_take 25 = .ok (.iconst 1, 1) := by decide +kernel
theorem dX9_take_26 : decode cX9_take 26 = .ok (.aload_n 0, 1) := by decide +kernel
theorem dX9_take_27 : decode cX9_take 27 = .ok (.getfield 267, 3) := by decide +kernel
theorem dX9_take_30 : decode cX9_take 30 = .ok (.invokevirtual 273, 3) := by decide +kernel
theorem dX9_take_33 : decode cX9_take 33 = .ok (.istore_n 2, 1) := by decide +kernel
theorem dX9_take_34 : decode cX9_take 34 = .ok (.lconst 0, 1) := by decide +kernel
theorem dX9_take_35 : decode cX9_take 35 = .ok (.lreturn, 1) := by decide +kernel
theorem dX9_take_36 : decode cX9_take 36 = .ok (.lconst 0, 1) := by decide +kernel
theorem dX9_take_37 : decode cX9_take 37 = .ok (.lstore_n 2, 1) := by decide +kernel
theorem dX9_take_38 : decode cX9_take 38 = .ok (.iconst 0, 1) := by decide +kernel
theorem dX9_take_39 : decode cX9_take 39 = .ok (.istore 4, 2) := by decide +kernel
theorem dX9_take_41 : decode cX9_take 41 = .ok (.iload 4, 2) := by decide +kernel
theorem dX9_take_43 : decode cX9_take 43 = .ok (.iload_n 1, 1) := by decide +kernel
theorem dX9_take_44 : decode cX9_take 44 = .ok (.if_icmp .ge 60, 3) := by decide +kernel
theorem dX9_take_47 : decode cX9_take 47 = .ok (.aload_n 0, 1) := by decide +kernel
theorem dX9_take_48 : decode cX9_take 48 = .ok (.getfield 267, 3) := by decide +kernel
theorem dX9_take_51 : decode cX9_take 51 = .ok (.ldc2_w 73, 3) := by decide +kernel
theorem dX9_take_54 : decode cX9_take 54 = .ok (.ldiv, 1) := by decide +kernel
theorem dX9_take_55 : decode cX9_take 55 = .ok (.l2i, 1) := by decide +kernel
theorem dX9_take_56 : decode cX9_take 56 = .ok (.istore 5, 2) := by decide +kernel
theorem dX9_take_58 : decode cX9_take 58 = .ok (.lload_n 2, 1) := by decide +kernel
theorem dX9_take_59 : decode cX9_take 59 = .ok (.iconst 1, 1) := by decide +kernel
theorem dX9_take_60 : decode cX9_take 60 = .ok (.lshl, 1) := by decide +kernel
theorem dX9_take_61 : decode cX9_take 61 = .ok (.aload_n 0, 1) := by decide +kernel
theorem dX9_take_62 : decode cX9_take 62 = .ok (.getfield 49, 3) := by decide +kernel
theorem dX9_take_65 : decode cX9_take 65 = .ok (.iload 5, 2) := by decide +kernel
theorem dX9_take_67 : decode cX9_take 67 = .ok (.invokestatic 198, 3) := by decide +kernel
theorem dX9_take_70 : decode cX9_take 70 = .ok (.bipush 7, 2) := by decide +kernel
theorem dX9_take_72 : decode cX9_take 72 = .ok (.aload_n 0, 1) := by decide +kernel
theorem dX9_take_73 : decode cX9_take 73 = .ok (.getfield 267, 3) := by decide +kernel
theorem dX9_take_76 : decode cX9_take 76 = .ok (.ldc2_w 73, 3) := by decide +kernel
theorem dX9_take_79 : decode cX9_take 79 = .ok (.lrem, 1) := by decide +kernel
theorem dX9_take_80 : decode cX9_take 80 = .ok (.l2i, 1) := by decide +kernel
theorem dX9_take_81 : decode cX9_take 81 = .ok (.isub, 1) := by decide +kernel
theorem dX9_take_82 : decode cX9_take 82 = .ok (.ishr, 1) := by decide +kernel
theorem dX9_take_83 : decode cX9_take 83 = .ok (.iconst 1, 1) := by decide +kernel
theorem dX9_take_84 : decode cX9_take 84 = .ok (.iand, 1) := by decide +kernel
theorem dX9_take_85 : decode cX9_take 85 = .ok (.i2l, 1) := by decide +kernel
theorem dX9_take_86 : decode cX9_take 86 = .ok (.lor, 1) := by decide +kernel
theorem dX9_take_87 : decode cX9_take 87 = .ok (.lstore_n 2, 1) := by decide +kernel
theorem dX9_take_88 : decode cX9_take 88 = .ok (.aload_n 0, 1) := by decide +kernel
theorem dX9_take_89 : decode cX9_take 89 = .ok (.dup, 1) := by decide +kernel
theorem dX9_take_90 : decode cX9_take 90 = .ok (.getfield 267, 3) := by decide +kernel
theorem dX9_take_93 : decode cX9_take 93 = .ok (.lconst 1, 1) := by decide +kernel
theorem dX9_take_94 : decode cX9_take 94 = .ok (.ladd, 1) := by decide +kernel
theorem dX9_take_95 : decode cX9_take 95 = .ok (.putfield 267, 3) := by decide +kernel
theorem dX9_take_98 : decode cX9_take 98 = .ok (.iinc 4 1, 3) := by decide +kernel
theorem dX9_take_101 : decode cX9_take 101 = .ok (.goto (-60), 3) := by decide +kernel
theorem dX9_take_104 : decode cX9_take 104 = .ok (.lload_n 2, 1) := by decide +kernel
theorem dX9_take_105 : decode cX9_take 105 = .ok (.lreturn, 1) := by decide +kernel
theorem dX9_takeSigned_0 : decode cX9_takeSigned 0 = .ok (.aload_n 0, 1) := by decide +kernel
theorem dX9_takeSigned_1 : decode cX9_takeSigned 1 = .ok (.iload_n 1, 1) := by decide +kernel
theorem dX9_takeSigned_2 : decode cX9_takeSigned 2 = .ok (.invokevirtual 277, 3) := by decide +kernel
theorem dX9_takeSigned_5 : decode cX9_takeSigned 5 = .ok (.lstore_n 2, 1) := by decide +kernel
theorem dX9_takeSigned_6 : decode cX9_takeSigned 6 = .ok (.iload_n 1, 1) := by decide +kernel
theorem dX9_takeSigned_7 : decode cX9_takeSigned 7 = .ok (.ifCond .le 23, 3) := by decide +kernel
theorem dX9_takeSigned_10 : decode cX9_takeSigned 10 = .ok (.lload_n 2, 1) := by decide +kernel
theorem dX9_takeSigned_11 : decode cX9_takeSigned 11 = .ok (.iload_n 1, 1) := by decide +kernel
theorem dX9_takeSigned_12 : decode cX9_takeSigned 12 = .ok (.iconst 1, 1) := by decide +kernel
theorem dX9_takeSigned_13 : decode cX9_takeSigned 13 = .ok (.isub, 1) := by decide +kernel
theorem dX9_takeSigned_14 : decode cX9_takeSigned 14 = .ok (.lshr, 1) := by decide +kernel
theorem dX9_takeSigned_15 : decode cX9_takeSigned 15 = .ok (.lconst 1, 1) := by decide +kernel
theorem dX9_takeSigned_16 : decode cX9_takeSigned 16 = .ok (.land, 1) := by decide +kernel
theorem dX9_takeSigned_17 : decode cX9_takeSigned 17 = .ok (.lconst 1, 1) := by decide +kernel
theorem dX9_takeSigned_18 : decode cX9_takeSigned 18 = .ok (.lcmp, 1) := by decide +kernel
theorem dX9_takeSigned_19 : decode cX9_takeSigned 19 = .ok (.ifCond .ne 11, 3) := by decide +kernel
theorem dX9_takeSigned_22 : decode cX9_takeSigned 22 = .ok (.lload_n 2, 1) := by decide +kernel
theorem dX9_takeSigned_23 : decode cX9_takeSigned 23 = .ok (.lconst 1, 1) := by decide +kernel
theorem dX9_takeSigned_24 : decode cX9_takeSigned 24 = .ok (.iload_n 1, 1) := by decide +kernel
theorem dX9_takeSigned_25 : decode cX9_takeSigned 25 = .ok (.lshl, 1) := by decide +kernel
theorem dX9_takeSigned_26 : decode cX9_takeSigned 26 = .ok (.lsub, 1) := by decide +kernel
theorem dX9_takeSigned_27 : decode cX9_takeSigned 27 = .ok (.goto 4, 3) := by decide +kernel
theorem dX9_takeSigned_30 : decode cX9_takeSigned 30 = .ok (.lload_n 2, 1) := by decide +kernel
theorem dX9_takeSigned_31 : decode cX9_takeSigned 31 = .ok (.lreturn, 1) := by decide +kernel
theorem dX9_takeIn_0 : decode cX9_takeIn 0 = .ok (.aload_n 0, 1) := by decide +kernel
theorem dX9_takeIn_1 : decode cX9_takeIn 1 = .ok (.getfield 267, 3) := by decide +kernel
theorem dX9_takeIn_4 : decode cX9_takeIn 4 = .ok (.lstore 6, 2) := by decide +kernel
theorem dX9_takeIn_6 : decode cX9_takeIn 6 = .ok (.aload_n 0, 1) := by decide +kernel
theorem dX9_takeIn_7 : decode cX9_takeIn 7 = .ok (.iload_n 1, 1) := by decide +kernel
theorem dX9_takeIn_8 : decode cX9_takeIn 8 = .ok (.invokevirtual 277, 3) := by decide +kernel
theorem dX9_takeIn_11 : decode cX9_takeIn 11 = .ok (.lstore 8, 2) := by decide +kernel
theorem dX9_takeIn_13 : decode cX9_takeIn 13 = .ok (.aload_n 0, 1) := by decide +kernel
theorem dX9_takeIn_14 : decode cX9_takeIn 14 = .ok (.getfield 264, 3) := by decide +kernel
theorem dX9_takeIn_17 : decode cX9_takeIn 17 = .ok (.ifCond .ne 23, 3) := by decide +kernel
theorem dX9_takeIn_20 : decode cX9_takeIn 20 = .ok (.lload 8, 2) := by decide +kernel
theorem dX9_takeIn_22 : decode cX9_takeIn 22 = .ok (.lload_n 2, 1) := by decide +kernel
theorem dX9_takeIn_23 : decode cX9_takeIn 23 = .ok (.lload 4, 2) := by decide +kernel
theorem dX9_takeIn_25 : decode cX9_takeIn 25 = .ok (.invokestatic 75, 3) := by decide +kernel
theorem dX9_takeIn_28 : decode cX9_takeIn 28 = .ok (.ifCond .ne 12, 3) := by decide +kernel
theorem dX9_takeIn_31 : decode cX9_takeIn 31 = .ok (.aload_n 0, 1) := by decide +kernel
theorem dX9_takeIn_32 : decode cX9_takeIn 32 = .ok (.iconst 2, 1) := by decide +kernel
theorem dX9_takeIn_33 : decode cX9_takeIn 33 = .ok (.lload 6, 2) := by decide +kernel
theorem dX9_takeIn_35 : decode cX9_takeIn 35 = .ok (.invokevirtual 273, 3) := by decide +kernel
theorem dX9_takeIn_38 : decode cX9_takeIn 38 = .ok (.istore 10, 2) := by decide +kernel
theorem dX9_takeIn_40 : decode cX9_takeIn 40 = .ok (.lload 8, 2) := by decide +kernel
theorem dX9_takeIn_42 : decode cX9_takeIn 42 = .ok (.lreturn, 1) := by decide +kernel
theorem dX9_takeRow_0 : decode cX9_takeRow 0 = .ok (.aload_n 0, 1) := by decide +kernel
theorem dX9_takeRow_1 : decode cX9_takeRow 1 = .ok (.getfield 267, 3) := by decide +kernel
theorem dX9_takeRow_4 : decode cX9_takeRow 4 = .ok (.lstore_n 1, 1) := by decide +kernel
theorem dX9_takeRow_5 : decode cX9_takeRow 5 = .ok (.lconst 0, 1) := by decide +kernel
theorem dX9_takeRow_6 : decode cX9_takeRow 6 = .ok (.lstore_n 3, 1) := by decide +kernel
theorem dX9_takeRow_7 : decode cX9_takeRow 7 = .ok (.aload_n 0, 1) := by decide +kernel
theorem dX9_takeRow_8 : decode cX9_takeRow 8 = .ok (.getfield 264, 3) := by decide +kernel
theorem dX9_takeRow_11 : decode cX9_takeRow 11 = .ok (.ifCond .ne 32, 3) := by decide +kernel
theorem dX9_takeRow_14 : decode cX9_takeRow 14 = .ok (.aload_n 0, 1) := by decide +kernel
theorem dX9_takeRow_15 : decode cX9_takeRow 15 = .ok (.getfield 267, 3) := by decide +kernel
theorem dX9_takeRow_18 : decode cX9_takeRow 18 = .ok (.aload_n 0, 1) := by decide +kernel
theorem dX9_takeRow_19 : decode cX9_takeRow 19 = .ok (.getfield 270, 3) := by decide +kernel
theorem dX9_takeRow_22 : decode cX9_takeRow 22 = .ok (.lcmp, 1) := by decide +kernel
theorem dX9_takeRow_23 : decode cX9_takeRow 23 = .ok (.ifCond .ge 20, 3) := by decide +kernel
theorem dX9_takeRow_26 : decode cX9_takeRow 26 = .ok (.aload_n 0, 1) := by decide +kernel
theorem dX9_takeRow_27 : decode cX9_takeRow 27 = .ok (.iconst 1, 1) := by decide +kernel
theorem dX9_takeRow_28 : decode cX9_takeRow 28 = .ok (.invokevirtual 277, 3) := by decide +kernel
theorem dX9_takeRow_31 : decode cX9_takeRow 31 = .ok (.lconst 0, 1) := by decide +kernel
theorem dX9_takeRow_32 : decode cX9_takeRow 32 = .ok (.lcmp, 1) := by decide +kernel
theorem dX9_takeRow_33 : decode cX9_takeRow 33 = .ok (.ifCond .ne 10, 3) := by decide +kernel
theorem dX9_takeRow_36 : decode cX9_takeRow 36 = .ok (.lload_n 3, 1) := by decide +kernel
theorem dX9_takeRow_37 : decode cX9_takeRow 37 = .ok (.lconst 1, 1) := by decide +kernel
theorem dX9_takeRow_38 : decode cX9_takeRow 38 = .ok (.ladd, 1) := by decide +kernel
theorem dX9_takeRow_39 : decode cX9_takeRow 39 = .ok (.lstore_n 3, 1) := by decide +kernel
theorem dX9_takeRow_40 : decode cX9_takeRow 40 = .ok (.goto (-33), 3) := by decide +kernel
theorem dX9_takeRow_43 : decode cX9_takeRow 43 = .ok (.aload_n 0, 1) := by decide +kernel
theorem dX9_takeRow_44 : decode cX9_takeRow 44 = .ok (.getfield 264, 3) := by decide +kernel
theorem dX9_takeRow_47 : decode cX9_takeRow 47 = .ok (.ifCond .ne 33, 3) := by decide +kernel
theorem dX9_takeRow_50 : decode cX9_takeRow 50 = .ok (.aload_n 0, 1) := by decide +kernel
theorem dX9_takeRow_51 : decode cX9_takeRow 51 = .ok (.getfield 267, 3) := by decide +kernel
theorem dX9_takeRow_54 : decode cX9_takeRow 54 = .ok (.lload_n 1, 1) := by decide +kernel
theorem dX9_takeRow_55 : decode cX9_takeRow 55 = .ok (.lcmp, 1) := by decide +kernel
theorem dX9_takeRow_56 : decode cX9_takeRow 56 = .ok (.ifCond .eq 16, 3) := by decide +kernel
theorem dX9_takeRow_59 : decode cX9_takeRow 59 = .ok (.aload_n 0, 1) := by decide +kernel
theorem dX9_takeRow_60 : decode cX9_takeRow 60 = .ok (.getfield 267, 3) := by decide +kernel
theorem dX9_takeRow_63 : decode cX9_takeRow 63 = .ok (.lload_n 1, 1) := by decide +kernel
theorem dX9_takeRow_64 : decode cX9_takeRow 64 = .ok (.lsub, 1) := by decide +kernel
theorem dX9_takeRow_65 : decode cX9_takeRow 65 = .ok (.lload_n 3, 1) := by decide +kernel
theorem dX9_takeRow_66 : decode cX9_takeRow 66 = .ok (.lconst 1, 1) := by decide +kernel
theorem dX9_takeRow_67 : decode cX9_takeRow 67 = .ok (.ladd, 1) := by decide +kernel
theorem dX9_takeRow_68 : decode cX9_takeRow 68 = .ok (.lcmp, 1) := by decide +kernel
theorem dX9_takeRow_69 : decode cX9_takeRow 69 = .ok (.ifCond .eq 11, 3) := by decide +kernel
theorem dX9_takeRow_72 : decode cX9_takeRow 72 = .ok (.aload_n 0, 1) := by decide +kernel
theorem dX9_takeRow_73 : decode cX9_takeRow 73 = .ok (.iconst 1, 1) := by decide +kernel
theorem dX9_takeRow_74 : decode cX9_takeRow 74 = .ok (.lload_n 1, 1) := by decide +kernel
theorem dX9_takeRow_75 : decode cX9_takeRow 75 = .ok (.invokevirtual 273, 3) := by decide +kernel
theorem dX9_takeRow_78 : decode cX9_takeRow 78 = .ok (.istore 5, 2) := by decide +kernel
theorem dX9_takeRow_80 : decode cX9_takeRow 80 = .ok (.lload_n 3, 1) := by decide +kernel
theorem dX9_takeRow_81 : decode cX9_takeRow 81 = .ok (.lreturn, 1) := by decide +kernel
theorem dX9_passOver_0 : decode cX9_passOver 0 = .ok (.aload_n 0, 1) := by decide +kernel
theorem dX9_passOver_1 : decode cX9_passOver 1 = .ok (.getfield 264, 3) := by decide +kernel
theorem dX9_passOver_4 : decode cX9_passOver 4 = .ok (.ifCond .ne 27, 3) := by decide +kernel
theorem dX9_passOver_7 : decode cX9_passOver 7 = .ok (.aload_n 0, 1) := by decide +kernel
theorem dX9_passOver_8 : decode cX9_passOver 8 = .ok (.getfield 267, 3) := by decide +kernel
theorem dX9_passOver_11 : decode cX9_passOver 11 = .ok (.lload_n 1, 1) := by decide +kernel
theorem dX9_passOver_12 : decode cX9_passOver 12 = .ok (.ladd, 1) := by decide +kernel
theorem dX9_passOver_13 : decode cX9_passOver 13 = .ok (.aload_n 0, 1) := by decide +kernel
theorem dX9_passOver_14 : decode cX9_passOver 14 = .ok (.getfield 270, 3) := by decide +kernel
theorem dX9_passOver_17 : decode cX9_passOver 17 = .ok (.lcmp, 1) := by decide +kernel
theorem dX9_passOver_18 : decode cX9_passOver 18 = .ok (.ifCond .le 13, 3) := by decide +kernel
theorem dX9_passOver_21 : decode cX9_passOver 21 = .ok (.aload_n 0, 1) := by decide +kernel
theorem dX9_passOver_22 : decode cX9_passOver 22 = .ok (.iconst 1, 1) := by decide +kernel
theorem dX9_passOver_23 : decode cX9_passOver 23 = .ok (.aload_n 0, 1) := by decide +kernel
theorem dX9_passOver_24 : decode cX9_passOver 24 = .ok (.getfield 267, 3) := by decide +kernel
theorem dX9_passOver_27 : decode cX9_passOver 27 = .ok (.invokevirtual 273, 3) := by decide +kernel
theorem dX9_passOver_30 : decode cX9_passOver 30 = .ok (.istore_n 3, 1) := by decide +kernel
theorem dX9_passOver_31 : decode cX9_passOver 31 = .ok (.aload_n 0, 1) := by decide +kernel
theorem dX9_passOver_32 : decode cX9_passOver 32 = .ok (.dup, 1) := by decide +kernel
theorem dX9_passOver_33 : decode cX9_passOver 33 = .ok (.getfield 267, 3) := by decide +kernel
theorem dX9_passOver_36 : decode cX9_passOver 36 = .ok (.lload_n 1, 1) := by decide +kernel
theorem dX9_passOver_37 : decode cX9_passOver 37 = .ok (.ladd, 1) := by decide +kernel
theorem dX9_passOver_38 : decode cX9_passOver 38 = .ok (.putfield 267, 3) := by decide +kernel
theorem dX9_passOver_41 : decode cX9_passOver 41 = .ok (.return_, 1) := by decide +kernel
theorem dX9_readSettings_0 : decode cX9_readSettings 0 = .ok (.aload_n 0, 1) := by decide +kernel
theorem dX9_readSettings_1 : decode cX9_readSettings 1 = .ok (.bipush 32, 2) := by decide +kernel
theorem dX9_readSettings_3 : decode cX9_readSettings 3 = .ok (.ldc2_w 242, 3) := by decide +kernel
theorem dX9_readSettings_6 : decode cX9_readSettings 6 = .ok (.ldc2_w 242, 3) := by decide +kernel
theorem dX9_readSettings_9 : decode cX9_readSettings 9 = .ok (.invokevirtual 280, 3) := by decide +kernel
theorem dX9_readSettings_12 : decode cX9_readSettings 12 = .ok (.lstore_n 1, 1) := by decide +kernel
theorem dX9_readSettings_13 : decode cX9_readSettings 13 = .ok (.aload_n 0, 1) := by decide +kernel
theorem dX9_readSettings_14 : decode cX9_readSettings 14 = .ok (.iconst 1, 1) := by decide +kernel
theorem dX9_readSettings_15 : decode cX9_readSettings 15 = .ok (.invokevirtual 277, 3) := by decide +kernel
theorem dX9_readSettings_18 : decode cX9_readSettings 18 = .ok (.lstore_n 3, 1) := by decide +kernel
theorem dX9_readSettings_19 : decode cX9_readSettings 19 = .ok (.aload_n 0, 1) := by decide +kernel
theorem dX9_readSettings_20 : decode cX9_readSettings 20 = .ok (.bipush 7, 2) := by decide +kernel
theorem dX9_readSettings_22 : decode cX9_readSettings 22 = .ok (.lconst 0, 1) := by decide +kernel
theorem dX9_readSettings_23 : decode cX9_readSettings 23 = .ok (.lconst 0, 1) := by decide +kernel
theorem dX9_readSettings_24 : decode cX9_readSettings 24 = .ok (.invokevirtual 280, 3) := by decide +kernel
theorem dX9_readSettings_27 : decode cX9_readSettings 27 = .ok (.lstore_n 1, 1) := by decide +kernel
theorem dX9_readSettings_28 : decode cX9_readSettings 28 = .ok (.aload_n 0, 1) := by decide +kernel
theorem dX9_readSettings_29 : decode cX9_readSettings 29 = .ok (.bipush 24, 2) := by decide +kernel
theorem dX9_readSettings_31 : decode cX9_readSettings 31 = .ok (.ldc2_w 244, 3) := by decide +kernel
theorem dX9_readSettings_34 : decode cX9_readSettings 34 = .ok (.ldc2_w 244, 3) := by decide +kernel
theorem dX9_readSettings_37 : decode cX9_readSettings 37 = .ok (.invokevirtual 280, 3) := by decide +kernel
theorem dX9_readSettings_40 : decode cX9_readSettings 40 = .ok (.lstore_n 1, 1) := by decide +kernel
theorem dX9_readSettings_41 : decode cX9_readSettings 41 = .ok (.aload_n 0, 1) := by decide +kernel
theorem dX9_readSettings_42 : decode cX9_readSettings 42 = .ok (.aload_n 0, 1) := by decide +kernel
theorem dX9_readSettings_43 : decode cX9_readSettings 43 = .ok (.bipush 16, 2) := by decide +kernel
theorem dX9_readSettings_45 : decode cX9_readSettings 45 = .ok (.ldc2_w 83, 3) := by decide +kernel
theorem dX9_readSettings_48 : decode cX9_readSettings 48 = .ok (.ldc2_w 85, 3) := by decide +kernel
theorem dX9_readSettings_51 : decode cX9_readSettings 51 = .ok (.invokevirtual 280, 3) := by decide +kernel
theorem dX9_readSettings_54 : decode cX9_readSettings 54 = .ok (.l2i, 1) := by decide +kernel
theorem dX9_readSettings_55 : decode cX9_readSettings 55 = .ok (.putfield 284, 3) := by decide +kernel
theorem dX9_readSettings_58 : decode cX9_readSettings 58 = .ok (.aload_n 0, 1) := by decide +kernel
theorem dX9_readSettings_59 : decode cX9_readSettings 59 = .ok (.bipush 16, 2) := by decide +kernel
theorem dX9_readSettings_61 : decode cX9_readSettings 61 = .ok (.aload_n 0, 1) := by decide +kernel
theorem dX9_readSettings_62 : decode cX9_readSettings 62 = .ok (.getfield 284, 3) := by decide +kernel
theorem dX9_readSettings_65 : decode cX9_readSettings 65 = .ok (.i2l, 1) := by decide +kernel
theorem dX9_readSettings_66 : decode cX9_readSettings 66 = .ok (.aload_n 0, 1) := by decide +kernel
theorem dX9_readSettings_67 : decode cX9_readSettings 67 = .ok (.getfield 284, 3) := by decide +kernel
theorem dX9_readSettings_70 : decode cX9_readSettings 70 = .ok (.i2l, 1) := by decide +kernel
theorem dX9_readSettings_71 : decode cX9_readSettings 71 = .ok (.invokevirtual 280, 3) := by decide +kernel
theorem dX9_readSettings_74 : decode cX9_readSettings 74 = .ok (.lstore_n 1, 1) := by decide +kernel
theorem dX9_readSettings_75 : decode cX9_readSettings 75 = .ok (.aload_n 0, 1) := by decide +kernel
theorem dX9_readSettings_76 : decode cX9_readSettings 76 = .ok (.bipush 24, 2) := by decide +kernel
theorem dX9_readSettings_78 : decode cX9_readSettings 78 = .ok (.invokevirtual 277, 3) := by decide +kernel
theorem dX9_readSettings_81 : decode cX9_readSettings 81 = .ok (.lstore_n 1, 1) := by decide +kernel
theorem dX9_readSettings_82 : decode cX9_readSettings 82 = .ok (.aload_n 0, 1) := by decide +kernel
theorem dX9_readSettings_83 : decode cX9_readSettings 83 = .ok (.bipush 24, 2) := by decide +kernel
theorem dX9_readSettings_85 : decode cX9_readSettings 85 = .ok (.invokevirtual 277, 3) := by decide +kernel
theorem dX9_readSettings_88 : decode cX9_readSettings 88 = .ok (.lstore_n 1, 1) := by decide +kernel
theorem dX9_readSettings_89 : decode cX9_readSettings 89 = .ok (.aload_n 0, 1) := by decide +kernel
theorem dX9_readSettings_90 : decode cX9_readSettings 90 = .ok (.aload_n 0, 1) := by decide +kernel
theorem dX9_readSettings_91 : decode cX9_readSettings 91 = .ok (.bipush 20, 2) := by decide +kernel
theorem dX9_readSettings_93 : decode cX9_readSettings 93 = .ok (.lconst 1, 1) := by decide +kernel
theorem dX9_readSettings_94 : decode cX9_readSettings 94 = .ok (.ldc2_w 87, 3) := by decide +kernel
theorem dX9_readSettings_97 : decode cX9_readSettings 97 = .ok (.invokevirtual 280, 3) := by decide +kernel
theorem dX9_readSettings_100 : decode cX9_readSettings 100 = .ok (.l2i, 1) := by decide +kernel
theorem dX9_readSettings_101 : decode cX9_readSettings 101 = .ok (.putfield 287, 3) := by decide +kernel
theorem dX9_readSettings_104 : decode cX9_readSettings 104 = .ok (.aload_n 0, 1) := by decide +kernel
theorem dX9_readSettings_105 : decode cX9_readSettings 105 = .ok (.aload_n 0, 1) := by decide +kernel
theorem dX9_readSettings_106 : decode cX9_readSettings 106 = .ok (.iconst 3, 1) := by decide +kernel
theorem dX9_readSettings_107 : decode cX9_readSettings 107 = .ok (.invokevirtual 277, 3) := by decide +kernel
theorem dX9_readSettings_110 : decode cX9_readSettings 110 = .ok (.l2i, 1) := by decide +kernel
theorem dX9_readSettings_111 : decode cX9_readSettings 111 = .ok (.iconst 1, 1) := by decide +kernel
theorem dX9_readSettings_112 : decode cX9_readSettings 112 = .ok (.iadd, 1) := by decide +kernel
theorem dX9_readSettings_113 : decode cX9_readSettings 113 = .ok (.putfield 290, 3) := by decide +kernel
theorem dX9_readSettings_116 : decode cX9_readSettings 116 = .ok (.aload_n 0, 1) := by decide +kernel
theorem dX9_readSettings_117 : decode cX9_readSettings 117 = .ok (.aload_n 0, 1) := by decide +kernel
theorem dX9_readSettings_118 : decode cX9_readSettings 118 = .ok (.iconst 5, 1) := by decide +kernel
theorem dX9_readSettings_119 : decode cX9_readSettings 119 = .ok (.ldc2_w 113, 3) := by decide +kernel
theorem dX9_readSettings_122 : decode cX9_readSettings 122 = .ok (.ldc2_w 293, 3) := by decide +kernel
theorem dX9_readSettings_125 : decode cX9_readSettings 125 = .ok (.invokevirtual 280, 3) := by decide +kernel
theorem dX9_readSettings_128 : decode cX9_readSettings 128 = .ok (.l2i, 1) := by decide +kernel
theorem dX9_readSettings_129 : decode cX9_readSettings 129 = .ok (.iconst 1, 1) := by decide +kernel
theorem dX9_readSettings_130 : decode cX9_readSettings 130 = .ok (.iadd, 1) := by decide +kernel
theorem dX9_readSettings_131 : decode cX9_readSettings 131 = .ok (.putfield 295, 3) := by decide +kernel
theorem dX9_readSettings_134 : decode cX9_readSettings 134 = .ok (.aload_n 0, 1) := by decide +kernel
theorem dX9_readSettings_135 : decode cX9_readSettings 135 = .ok (.getfield 267, 3) := by decide +kernel
theorem dX9_readSettings_138 : decode cX9_readSettings 138 = .ok (.lstore 5, 2) := by decide +kernel
theorem dX9_readSettings_140 : decode cX9_readSettings 140 = .ok (.aload_n 0, 1) := by decide +kernel
theorem dX9_readSettings_141 : decode cX9_readSettings 141 = .ok (.aload_n 0, 1) := by decide +kernel
theorem dX9_readSettings_142 : decode cX9_readSettings 142 = .ok (.bipush 36, 2) := by decide +kernel
theorem dX9_readSettings_144 : decode cX9_readSettings 144 = .ok (.invokevirtual 277, 3) := by decide +kernel
theorem dX9_readSettings_147 : decode cX9_readSettings 147 = .ok (.putfield 298, 3) := by decide +kernel
theorem dX9_readSettings_150 : decode cX9_readSettings 150 = .ok (.aload_n 0, 1) := by decide +kernel
theorem dX9_readSettings_151 : decode cX9_readSettings 151 = .ok (.getfield 264, 3) := by decide +kernel
theorem dX9_readSettings_154 : decode cX9_readSettings 154 = .ok (.ifCond .ne 29, 3) := by decide +kernel
theorem dX9_readSettings_157 : decode cX9_readSettings 157 = .ok (.aload_n 0, 1) := by decide +kernel
theorem dX9_readSettings_158 : decode cX9_readSettings 158 = .ok (.getfield 298, 3) := by decide +kernel
theorem dX9_readSettings_161 : decode cX9_readSettings 161 = .ok (.aload_n 0, 1) := by decide +kernel
theorem dX9_readSettings_162 : decode cX9_readSettings 162 = .ok (.getfield 290, 3) := by decide +kernel
theorem dX9_readSettings_165 : decode cX9_readSettings 165 = .ok (.i2l, 1) := by decide +kernel
theorem dX9_readSettings_166 : decode cX9_readSettings 166 = .ok (.lmul, 1) := by decide +kernel
theorem dX9_readSettings_167 : decode cX9_readSettings 167 = .ok (.ldc2_w 301, 3) := by decide +kernel
theorem dX9_readSettings_170 : decode cX9_readSettings 170 = .ok (.lcmp, 1) := by decide +kernel
theorem dX9_readSettings_171 : decode cX9_readSettings 171 = .ok (.ifCond .le 12, 3) := by decide +kernel
theorem dX9_readSettings_174 : decode cX9_readSettings 174 = .ok (.aload_n 0, 1) := by decide +kernel
theorem dX9_readSettings_175 : decode cX9_readSettings 175 = .ok (.iconst 4, 1) := by decide +kernel
theorem dX9_readSettings_176 : decode cX9_readSettings 176 = .ok (.lload 5, 2) := by decide +kernel
theorem dX9_readSettings_178 : decode cX9_readSettings 178 = .ok (.invokevirtual 273, 3) := by decide +kernel
theorem dX9_readSettings_181 : decode cX9_readSettings 181 = .ok (.istore 7, 2) := by decide +kernel
theorem dX9_readSettings_183 : decode cX9_readSettings 183 = .ok (.aload_n 0, 1) := by decide +kernel
theorem dX9_readSettings_184 : decode cX9_readSettings 184 = .ok (.ldc2_w 303, 3) := by decide +kernel
theorem dX9_readSettings_187 : decode cX9_readSettings 187 = .ok (.invokevirtual 305, 3) := by decide +kernel
theorem dX9_readSettings_190 : decode cX9_readSettings 190 = .ok (.aload_n 0, 1) := by decide +kernel
theorem dX9_readSettings_191 : decode cX9_readSettings 191 = .ok (.getfield 264, 3) := by decide +kernel
theorem dX9_readSettings_194 : decode cX9_readSettings 194 = .ok (.ifCond .ne 43, 3) := by decide +kernel
theorem dX9_readSettings_197 : decode cX9_readSettings 197 = .ok (.lload_n 3, 1) := by decide +kernel
theorem dX9_readSettings_198 : decode cX9_readSettings 198 = .ok (.lconst 0, 1) := by decide +kernel
theorem dX9_readSettings_199 : decode cX9_readSettings 199 = .ok (.lcmp, 1) := by decide +kernel
theorem dX9_readSettings_200 : decode cX9_readSettings 200 = .ok (.ifCond .ne 37, 3) := by decide +kernel
theorem dX9_readSettings_203 : decode cX9_readSettings 203 = .ok (.aload_n 0, 1) := by decide +kernel
theorem dX9_readSettings_204 : decode cX9_readSettings 204 = .ok (.iconst 1, 1) := by decide +kernel
theorem dX9_readSettings_205 : decode cX9_readSettings 205 = .ok (.invokevirtual 277, 3) := by decide +kernel
theorem dX9_readSettings_208 : decode cX9_readSettings 208 = .ok (.lstore_n 3, 1) := by decide +kernel
theorem dX9_readSettings_209 : decode cX9_readSettings 209 = .ok (.aload_n 0, 1) := by decide +kernel
theorem dX9_readSettings_210 : decode cX9_readSettings 210 = .ok (.bipush 7, 2) := by decide +kernel
theorem dX9_readSettings_212 : decode cX9_readSettings 212 = .ok (.lconst 1, 1) := by decide +kernel
theorem dX9_readSettings_213 : decode cX9_readSettings 213 = .ok (.ldc2_w 309, 3) := by decide +kernel
theorem dX9_readSettings_216 : decode cX9_readSettings 216 = .ok (.invokevirtual 280, 3) := by decide +kernel
theorem dX9_readSettings_219 : decode cX9_readSettings 219 = .ok (.lstore_n 1, 1) := by decide +kernel
theorem dX9_readSettings_220 : decode cX9_readSettings 220 = .ok (.aload_n 0, 1) := by decide +kernel
theorem dX9_readSettings_221 : decode cX9_readSettings 221 = .ok (.ldc2_w 73, 3) := by decide +kernel
theorem dX9_readSettings_224 : decode cX9_readSettings 224 = .ok (.aload_n 0, 1) := by decide +kernel
theorem dX9_readSettings_225 : decode cX9_readSettings 225 = .ok (.bipush 24, 2) := by decide +kernel
theorem dX9_readSettings_227 : decode cX9_readSettings 227 = .ok (.invokevirtual 277, 3) := by decide +kernel
theorem dX9_readSettings_230 : decode cX9_readSettings 230 = .ok (.lmul, 1) := by decide +kernel
theorem dX9_readSettings_231 : decode cX9_readSettings 231 = .ok (.invokevirtual 305, 3) := by decide +kernel
theorem dX9_readSettings_234 : decode cX9_readSettings 234 = .ok (.goto (-44), 3) := by decide +kernel
theorem dX9_readSettings_237 : decode cX9_readSettings 237 = .ok (.return_, 1) := by decide +kernel
theorem dX9_readByte_0 : decode cX9_readByte 0 = .ok (.aload_n 0, 1) := by decide +kernel
theorem dX9_readByte_1 : decode cX9_readByte 1 = .ok (.getfield 267, 3) := by decide +kernel
theorem dX9_readByte_4 : decode cX9_readByte 4 = .ok (.lstore 4, 2) := by decide +kernel
theorem dX9_readByte_6 : decode cX9_readByte 6 = .ok (.aload_n 0, 1) := by decide +kernel
theorem dX9_readByte_7 : decode cX9_readByte 7 = .ok (.bipush 8, 2) := by decide +kernel
theorem dX9_readByte_9 : decode cX9_readByte 9 = .ok (.invokevirtual 277, 3) := by decide +kernel
theorem dX9_readByte_12 : decode cX9_readByte 12 = .ok (.lstore 6, 2) := by decide +kernel
theorem dX9_readByte_14 : decode cX9_readByte 14 = .ok (.iload_n 3, 1) := by decide +kernel
theorem dX9_readByte_15 : decode cX9_readByte 15 = .ok (.ifCond .eq 37, 3) := by decide +kernel
theorem dX9_readByte_18 : decode cX9_readByte 18 = .ok (.lload 6, 2) := by decide +kernel
theorem dX9_readByte_20 : decode cX9_readByte 20 = .ok (.lconst 0, 1) := by decide +kernel
theorem dX9_readByte_21 : decode cX9_readByte 21 = .ok (.ldc2_w 311, 3) := by decide +kernel
theorem dX9_readByte_24 : decode cX9_readByte 24 = .ok (.invokestatic 75, 3) := by decide +kernel
theorem dX9_readByte_27 : decode cX9_readByte 27 = .ok (.ifCond .ne 17, 3) := by decide +kernel
theorem dX9_readByte_30 : decode cX9_readByte 30 = .ok (.lload 6, 2) := by decide +kernel
theorem dX9_readByte_32 : decode cX9_readByte 32 = .ok (.ldc2_w 313, 3) := by decide +kernel
theorem dX9_readByte_35 : decode cX9_readByte 35 = .ok (.ldc2_w 315, 3) := by decide +kernel
theorem dX9_readByte_38 : decode cX9_readByte 38 = .ok (.invokestatic 75, 3) := by decide +kernel
theorem dX9_readByte_41 : decode cX9_readByte 41 = .ok (.ifCond .eq 7, 3) := by decide +kernel
theorem dX9_readByte_44 : decode cX9_readByte 44 = .ok (.iconst 1, 1) := by decide +kernel
theorem dX9_readByte_45 : decode cX9_readByte 45 = .ok (.goto 18, 3) := by decide +kernel
theorem dX9_readByte_48 : decode cX9_readByte 48 = .ok (.iconst 0, 1) := by decide +kernel
theorem dX9_readByte_49 : decode cX9_readByte 49 = .ok (.goto 14, 3) := by decide +kernel
theorem dX9_readByte_52 : decode cX9_readByte 52 = .ok (.lload 6, 2) := by decide +kernel
theorem dX9_readByte_54 : decode cX9_readByte 54 = .ok (.ldc2_w 303, 3) := by decide +kernel
theorem dX9_readByte_57 : decode cX9_readByte 57 = .ok (.ldc2_w 317, 3) := by decide +kernel
theorem dX9_readByte_60 : decode cX9_readByte 60 = .ok (.invokestatic 75, 3) := by decide +kernel
theorem dX9_readByte_63 : decode cX9_readByte 63 = .ok (.istore 8, 2) := by decide +kernel
theorem dX9_readByte_65 : decode cX9_readByte 65 = .ok (.aload_n 0, 1) := by decide +kernel
theorem dX9_readByte_66 : decode cX9_readByte 66 = .ok (.getfield 264, 3) := by decide +kernel
theorem dX9_readByte_69 : decode cX9_readByte 69 = .ok (.ifCond .ne 28, 3) := by decide +kernel
theorem dX9_readByte_72 : decode cX9_readByte 72 = .ok (.lload 6, 2) := by decide +kernel
theorem dX9_readByte_74 : decode cX9_readByte 74 = .ok (.lload_n 1, 1) := by decide +kernel
theorem dX9_readByte_75 : decode cX9_readByte 75 = .ok (.lcmp, 1) := by decide +kernel
theorem dX9_readByte_76 : decode cX9_readByte 76 = .ok (.ifCond .eq 21, 3) := by decide +kernel
theorem dX9_readByte_79 : decode cX9_readByte 79 = .ok (.aload_n 0, 1) := by decide +kernel
theorem dX9_readByte_80 : decode cX9_readByte 80 = .ok (.iload 8, 2) := by decide +kernel
theorem dX9_readByte_82 : decode cX9_readByte 82 = .ok (.ifCond .eq 7, 3) := by decide +kernel
theorem dX9_readByte_85 : decode cX9_readByte 85 = .ok (.iconst 4, 1) := by decide +kernel
theorem dX9_readByte_86 : decode cX9_readByte 86 = .ok (.goto 4, 3) := by decide +kernel
theorem dX9_readByte_89 : decode cX9_readByte 89 = .ok (.iconst 2, 1) := by decide +kernel
theorem dX9_readByte_90 : decode cX9_readByte 90 = .ok (.lload 4, 2) := by decide +kernel
theorem dX9_readByte_92 : decode cX9_readByte 92 = .ok (.invokevirtual 273, 3) := by decide +kernel
theorem dX9_readByte_95 : decode cX9_readByte 95 = .ok (.istore 9, 2) := by decide +kernel
theorem dX9_readByte_97 : decode cX9_readByte 97 = .ok (.return_, 1) := by decide +kernel
theorem dX9_readNumber_0 : decode cX9_readNumber 0 = .ok (.aload_n 0, 1) := by decide +kernel
theorem dX9_readNumber_1 : decode cX9_readNumber 1 = .ok (.iload_n 1, 1) := by decide +kernel
theorem dX9_readNumber_2 : decode cX9_readNumber 2 = .ok (.sipush 128, 3) := by decide +kernel
theorem dX9_readNumber_5 : decode cX9_readNumber 5 = .ok (.if_icmp .ge 8, 3) := by decide +kernel
theorem dX9_readNumber_8 : decode cX9_readNumber 8 = .ok (.iload_n 1, 1) := by decide +kernel
theorem dX9_readNumber_9 : decode cX9_readNumber 9 = .ok (.i2l, 1) := by decide +kernel
theorem dX9_readNumber_10 : decode cX9_readNumber 10 = .ok (.goto 12, 3) := by decide +kernel
theorem dX9_readNumber_13 : decode cX9_readNumber 13 = .ok (.sipush 192, 3) := by decide +kernel
theorem dX9_readNumber_16 : decode cX9_readNumber 16 = .ok (.iload_n 1, 1) := by decide +kernel
theorem dX9_readNumber_17 : decode cX9_readNumber 17 = .ok (.bipush 64, 2) := by decide +kernel
theorem dX9_readNumber_19 : decode cX9_readNumber 19 = .ok (.idiv, 1) := by decide +kernel
theorem dX9_readNumber_20 : decode cX9_readNumber 20 = .ok (.iadd, 1) := by decide +kernel
theorem dX9_readNumber_21 : decode cX9_readNumber 21 = .ok (.i2l, 1) := by decide +kernel
theorem dX9_readNumber_22 : decode cX9_readNumber 22 = .ok (.iconst 1, 1) := by decide +kernel
theorem dX9_readNumber_23 : decode cX9_readNumber 23 = .ok (.invokevirtual 319, 3) := by decide +kernel
theorem dX9_readNumber_26 : decode cX9_readNumber 26 = .ok (.iload_n 1, 1) := by decide +kernel
theorem dX9_readNumber_27 : decode cX9_readNumber 27 = .ok (.bipush 127, 2) := by decide +kernel
theorem dX9_readNumber_29 : decode cX9_readNumber 29 = .ok (.if_icmp .le 17, 3) := by decide +kernel
theorem dX9_readNumber_32 : decode cX9_readNumber 32 = .ok (.aload_n 0, 1) := by decide +kernel
theorem dX9_readNumber_33 : decode cX9_readNumber 33 = .ok (.sipush 128, 3) := by decide +kernel
theorem dX9_readNumber_36 : decode cX9_readNumber 36 = .ok (.iload_n 1, 1) := by decide +kernel
theorem dX9_readNumber_37 : decode cX9_readNumber 37 = .ok (.bipush 64, 2) := by decide +kernel
theorem dX9_readNumber_39 : decode cX9_readNumber 39 = .ok (.irem, 1) := by decide +kernel
theorem dX9_readNumber_40 : decode cX9_readNumber 40 = .ok (.iadd, 1) := by decide +kernel
theorem dX9_readNumber_41 : decode cX9_readNumber 41 = .ok (.i2l, 1) := by decide +kernel
theorem dX9_readNumber_42 : decode cX9_readNumber 42 = .ok (.iconst 0, 1) := by decide +kernel
theorem dX9_readNumber_43 : decode cX9_readNumber 43 = .ok (.invokevirtual 319, 3) := by decide +kernel
theorem dX9_readNumber_46 : decode cX9_readNumber 46 = .ok (.return_, 1) := by decide +kernel
theorem dX9_readAssignment_0 : decode cX9_readAssignment 0 = .ok (.aload_n 0, 1) := by decide +kernel
theorem dX9_readAssignment_1 : decode cX9_readAssignment 1 = .ok (.getfield 267, 3) := by decide +kernel
theorem dX9_readAssignment_4 : decode cX9_readAssignment 4 = .ok (.lstore_n 1, 1) := by decide +kernel
theorem dX9_readAssignment_5 : decode cX9_readAssignment 5 = .ok (.aload_n 0, 1) := by decide +kernel
theorem dX9_readAssignment_6 : decode cX9_readAssignment 6 = .ok (.iconst 4, 1) := by decide +kernel
theorem dX9_readAssignment_7 : decode cX9_readAssignment 7 = .ok (.invokevirtual 277, 3) := by decide +kernel
theorem dX9_readAssignment_10 : decode cX9_readAssignment 10 = .ok (.l2i, 1) := by decide +kernel
theorem dX9_readAssignment_11 : decode cX9_readAssignment 11 = .ok (.istore_n 3, 1) := by decide +kernel
theorem dX9_readAssignment_12 : decode cX9_readAssignment 12 = .ok (.aload_n 0, 1) := by decide +kernel
theorem dX9_readAssignment_13 : decode cX9_readAssignment 13 = .ok (.getfield 264, 3) := by decide +kernel
theorem dX9_readAssignment_16 : decode cX9_readAssignment 16 = .ok (.ifCond .ne 43, 3) := by decide +kernel
theorem dX9_readAssignment_19 : decode cX9_readAssignment 19 = .ok (.iload_n 3, 1) := by decide +kernel
theorem dX9_readAssignment_20 : decode cX9_readAssignment 20 = .ok (.aload_n 0, 1) := by decide +kernel
theorem dX9_readAssignment_21 : decode cX9_readAssignment 21 = .ok (.getfield 290, 3) := by decide +kernel
theorem dX9_readAssignment_24 : decode cX9_readAssignment 24 = .ok (.iconst 1, 1) := by decide +kernel
theorem dX9_readAssignment_25 : decode cX9_readAssignment 25 = .ok (.isub, 1) := by decide +kernel
theorem dX9_readAssignment_26 : decode cX9_readAssignment 26 = .ok (.if_icmp .eq 33, 3) := by decide +kernel
theorem dX9_readAssignment_29 : decode cX9_readAssignment 29 = .ok (.aload_n 0, 1) := by decide +kernel
theorem dX9_readAssignment_30 : decode cX9_readAssignment 30 = .ok (.getfield 290, 3) := by decide +kernel
theorem dX9_readAssignment_33 : decode cX9_readAssignment 33 = .ok (.iconst 2, 1) := by decide +kernel
theorem dX9_readAssignment_34 : decode cX9_readAssignment 34 = .ok (.if_icmp .ne 17, 3) := by decide +kernel
theorem dX9_readAssignment_37 : decode cX9_readAssignment 37 = .ok (.iload_n 3, 1) := by decide +kernel
theorem dX9_readAssignment_38 : decode cX9_readAssignment 38 = .ok (.i2l, 1) := by decide +kernel
theorem dX9_readAssignment_39 : decode cX9_readAssignment 39 = .ok (.ldc2_w 73, 3) := by decide +kernel
theorem dX9_readAssignment_42 : decode cX9_readAssignment 42 = .ok (.ldc2_w 323, 3) := by decide +kernel
theorem dX9_readAssignment_45 : decode cX9_readAssignment 45 = .ok (.invokestatic 75, 3) := by decide +kernel
theorem dX9_readAssignment_48 : decode cX9_readAssignment 48 = .ok (.ifCond .ne 11, 3) := by decide +kernel
theorem dX9_readAssignment_51 : decode cX9_readAssignment 51 = .ok (.aload_n 0, 1) := by decide +kernel
theorem dX9_readAssignment_52 : decode cX9_readAssignment 52 = .ok (.iconst 2, 1) := by decide +kernel
theorem dX9_readAssignment_53 : decode cX9_readAssignment 53 = .ok (.lload_n 1, 1) := by decide +kernel
theorem dX9_readAssignment_54 : decode cX9_readAssignment 54 = .ok (.invokevirtual 273, 3) := by decide +kernel
theorem dX9_readAssignment_57 : decode cX9_readAssignment 57 = .ok (.istore 4, 2) := by decide +kernel
theorem dX9_readAssignment_59 : decode cX9_readAssignment 59 = .ok (.iload_n 3, 1) := by decide +kernel
theorem dX9_readAssignment_60 : decode cX9_readAssignment 60 = .ok (.ireturn, 1) := by decide +kernel
theorem dX9_readFrame_0 : decode cX9_readFrame 0 = .ok (.aload_n 0, 1) := by decide +kernel
theorem dX9_readFrame_1 : decode cX9_readFrame 1 = .ok (.getfield 267, 3) := by decide +kernel
theorem dX9_readFrame_4 : decode cX9_readFrame 4 = .ok (.lstore_n 3, 1) := by decide +kernel
theorem dX9_readFrame_5 : decode cX9_readFrame 5 = .ok (.aload_n 0, 1) := by decide +kernel
theorem dX9_readFrame_6 : decode cX9_readFrame 6 = .ok (.bipush 14, 2) := by decide +kernel
theorem dX9_readFrame_8 : decode cX9_readFrame 8 = .ok (.ldc2_w 227, 3) := by decide +kernel
theorem dX9_readFrame_11 : decode cX9_readFrame 11 = .ok (.ldc2_w 227, 3) := by decide +kernel
theorem dX9_readFrame_14 : decode cX9_readFrame 14 = .ok (.invokevirtual 280, 3) := by decide +kernel
theorem dX9_readFrame_17 : decode cX9_readFrame 17 = .ok (.lstore 5, 2) := by decide +kernel
theorem dX9_readFrame_19 : decode cX9_readFrame 19 = .ok (.aload_n 0, 1) := by decide +kernel
theorem dX9_readFrame_20 : decode cX9_readFrame 20 = .ok (.iconst 2, 1) := by decide +kernel
theorem dX9_readFrame_21 : decode cX9_readFrame 21 = .ok (.lconst 0, 1) := by decide +kernel
theorem dX9_readFrame_22 : decode cX9_readFrame 22 = .ok (.lconst 0, 1) := by decide +kernel
theorem dX9_readFrame_23 : decode cX9_readFrame 23 = .ok (.invokevirtual 280, 3) := by decide +kernel
theorem dX9_readFrame_26 : decode cX9_readFrame 26 = .ok (.lstore 5, 2) := by decide +kernel
theorem dX9_readFrame_28 : decode cX9_readFrame 28 = .ok (.aload_n 0, 1) := by decide +kernel
theorem dX9_readFrame_29 : decode cX9_readFrame 29 = .ok (.iconst 4, 1) := by decide +kernel
theorem dX9_readFrame_30 : decode cX9_readFrame 30 = .ok (.ldc2_w 115, 3) := by decide +kernel
theorem dX9_readFrame_33 : decode cX9_readFrame 33 = .ok (.ldc2_w 115, 3) := by decide +kernel
theorem dX9_readFrame_36 : decode cX9_readFrame 36 = .ok (.invokevirtual 280, 3) := by decide +kernel
theorem dX9_readFrame_39 : decode cX9_readFrame 39 = .ok (.lstore 5, 2) := by decide +kernel
theorem dX9_readFrame_41 : decode cX9_readFrame 41 = .ok (.aload_n 0, 1) := by decide +kernel
theorem dX9_readFrame_42 : decode cX9_readFrame 42 = .ok (.iconst 4, 1) := by decide +kernel
theorem dX9_readFrame_43 : decode cX9_readFrame 43 = .ok (.lconst 0, 1) := by decide +kernel
theorem dX9_readFrame_44 : decode cX9_readFrame 44 = .ok (.lconst 0, 1) := by decide +kernel
theorem dX9_readFrame_45 : decode cX9_readFrame 45 = .ok (.invokevirtual 280, 3) := by decide +kernel
theorem dX9_readFrame_48 : decode cX9_readFrame 48 = .ok (.lstore 5, 2) := by decide +kernel
theorem dX9_readFrame_50 : decode cX9_readFrame 50 = .ok (.aload_n 0, 1) := by decide +kernel
theorem dX9_readFrame_51 : decode cX9_readFrame 51 = .ok (.invokevirtual 325, 3) := by decide +kernel
theorem dX9_readFrame_54 : decode cX9_readFrame 54 = .ok (.istore 7, 2) := by decide +kernel
theorem dX9_readFrame_56 : decode cX9_readFrame 56 = .ok (.aload_n 0, 1) := by decide +kernel
theorem dX9_readFrame_57 : decode cX9_readFrame 57 = .ok (.iconst 4, 1) := by decide +kernel
theorem dX9_readFrame_58 : decode cX9_readFrame 58 = .ok (.lconst 0, 1) := by decide +kernel
theorem dX9_readFrame_59 : decode cX9_readFrame 59 = .ok (.lconst 0, 1) := by decide +kernel
theorem dX9_readFrame_60 : decode cX9_readFrame 60 = .ok (.invokevirtual 280, 3) := by decide +kernel
theorem dX9_readFrame_63 : decode cX9_readFrame 63 = .ok (.lstore 5, 2) := by decide +kernel
theorem dX9_readFrame_65 : decode cX9_readFrame 65 = .ok (.aload_n 0, 1) := by decide +kernel
theorem dX9_readFrame_66 : decode cX9_readFrame 66 = .ok (.iload_n 1, 1) := by decide +kernel
theorem dX9_readFrame_67 : decode cX9_readFrame 67 = .ok (.invokevirtual 328, 3) := by decide +kernel
theorem dX9_readFrame_70 : decode cX9_readFrame 70 = .ok (.aload_n 0, 1) := by decide +kernel
theorem dX9_readFrame_71 : decode cX9_readFrame 71 = .ok (.getfield 267, 3) := by decide +kernel
theorem dX9_readFrame_74 : decode cX9_readFrame 74 = .ok (.lstore 8, 2) := by decide +kernel
theorem dX9_readFrame_76 : decode cX9_readFrame 76 = .ok (.aload_n 0, 1) := by decide +kernel
theorem dX9_readFrame_77 : decode cX9_readFrame 77 = .ok (.bipush 8, 2) := by decide +kernel
theorem dX9_readFrame_79 : decode cX9_readFrame 79 = .ok (.invokevirtual 277, 3) := by decide +kernel
theorem dX9_readFrame_82 : decode cX9_readFrame 82 = .ok (.lstore 5, 2) := by decide +kernel
theorem dX9_readFrame_84 : decode cX9_readFrame 84 = .ok (.aload_n 0, 1) := by decide +kernel
theorem dX9_readFrame_85 : decode cX9_readFrame 85 = .ok (.getfield 264, 3) := by decide +kernel
theorem dX9_readFrame_88 : decode cX9_readFrame 88 = .ok (.ifCond .ne 22, 3) := by decide +kernel
theorem dX9_readFrame_91 : decode cX9_readFrame 91 = .ok (.lload 5, 2) := by decide +kernel
theorem dX9_readFrame_93 : decode cX9_readFrame 93 = .ok (.iload_n 2, 1) := by decide +kernel
theorem dX9_readFrame_94 : decode cX9_readFrame 94 = .ok (.iconst 1, 1) := by decide +kernel
theorem dX9_readFrame_95 : decode cX9_readFrame 95 = .ok (.isub, 1) := by decide +kernel
theorem dX9_readFrame_96 : decode cX9_readFrame 96 = .ok (.i2l, 1) := by decide +kernel
theorem dX9_readFrame_97 : decode cX9_readFrame 97 = .ok (.lcmp, 1) := by decide +kernel
theorem dX9_readFrame_98 : decode cX9_readFrame 98 = .ok (.ifCond .eq 12, 3) := by decide +kernel
theorem dX9_readFrame_101 : decode cX9_readFrame 101 = .ok (.aload_n 0, 1) := by decide +kernel
theorem dX9_readFrame_102 : decode cX9_readFrame 102 = .ok (.iconst 4, 1) := by decide +kernel
theorem dX9_readFrame_103 : decode cX9_readFrame 103 = .ok (.lload 8, 2) := by decide +kernel
theorem dX9_readFrame_105 : decode cX9_readFrame 105 = .ok (.invokevirtual 273, 3) := by decide +kernel
theorem dX9_readFrame_108 : decode cX9_readFrame 108 = .ok (.istore 10, 2) := by decide +kernel
theorem dX9_readFrame_110 : decode cX9_readFrame 110 = .ok (.aload_n 0, 1) := by decide +kernel
theorem dX9_readFrame_111 : decode cX9_readFrame 111 = .ok (.lload_n 3, 1) := by decide +kernel
theorem dX9_readFrame_112 : decode cX9_readFrame 112 = .ok (.bipush 8, 2) := by decide +kernel
